/-! On and on with unknowns: all ends, each with its box. -/
def sy_pick (bx : sy_B) (v : Value) : Option (Nat × Int) := match v with
  | .retAddr k => match bx[k]? with
    | some q => if q.1 = q.2 then none else if q.2 - q.1 ≤ 64 then some (k, q.1 + 1) else none
    | none => none
  | _ => none
def sy_or (a b : Option (Nat × Int)) : Option (Nat × Int) := match a with
  | some q => some q
  | none => b
-- the unknown v against c: cut below c, or (up) behind it; both (eq): first below, then behind
def sy_at (bx : sy_B) (v : Value) (m : Nat) (c : Int) : Option (Nat × Int) := match v with
  | .retAddr k => match bx[k]? with
    | some q => match m with
      | 0 => some (k, c)
      | 1 => some (k, c + 1)
      | _ => if q.1 < c then some (k, c) else some (k, c + 1)
    | none => none
  | _ => none
-- how 'x ? y' is cut, x unknown; y unknown
def sy_mx (c : ClassFile.Cond) : Nat := match c with
  | .lt => 0
  | .ge => 0
  | .gt => 1
  | .le => 1
  | _ => 2
def sy_my (c : ClassFile.Cond) : Nat := match c with
  | .lt => 1
  | .ge => 1
  | .gt => 0
  | .le => 0
  | _ => 2
-- where to cut: the unknown, and the place
def sy_fork (bx : sy_B) (i : Instr) (st : List Value) : Option (Nat × Int) := match i with
  | .ifCond cc _ => match st with
    | v :: _ => sy_at bx v (sy_mx cc) 0
    | _ => none
  | .if_icmp cc _ => match st with
    | v :: u :: _ => match sy_int bx v, sy_int bx u with
      | some c, none => sy_at bx u (sy_mx cc) c.toInt
      | none, some c => sy_at bx v (sy_my cc) c.toInt
      | _, _ => sy_or (sy_pick bx v) (sy_pick bx u)
    | _ => none
  | .tableswitch _ lo hi _ => match st with
    | v :: _ => match sy_rng bx v with
      | some q => if q.1 < lo then sy_at bx v 0 lo else if hi < q.2 then sy_at bx v 1 hi else sy_pick bx v
      | none => none
    | _ => none
  | .invokevirtual _ => none
  | .invokespecial _ => none
  | .invokestatic _ => none
  | .ireturn => none
  | .return_ => none
  | _ => match st with
    | a :: b :: c :: _ => sy_or (sy_pick bx a) (sy_or (sy_pick bx b) (sy_pick bx c))
    | a :: b :: _ => sy_or (sy_pick bx a) (sy_pick bx b)
    | a :: _ => sy_pick bx a
    | _ => none
def sy_rcv0 (M : xi_M) (as : List Value) (w : sy_W) : Bool := match as with
  | .ref a :: _ => match sy_cell w a with
    | some (.inr (cj, _)) => cj == M.2.2.2.2.2.2.1
    | _ => false
  | _ => false
def sy_rcv (M : xi_M) (as : List Value) (w : sy_W) : Bool := match M.2.2.2.2.1 with
  | 0 => sy_rcv0 M as w
  | 1 => true
  | 2 => xi_rcv2 as
  | _ => false
def sy_inv (mt : Nat → Option xi_M) (M : xi_M) (i : Instr) (A : sy_S) : Option (Nat × xi_M × List Value × List Value) := match xi_kd i with
  | some (n, kd) => match xi_lk M n with
    | some (3, j, _) => match mt j with
      | some Mj => if Mj.2.2.2.2.1 = kd ∧ A.2.1.length = M.2.2.1 ∧ xi_np Mj ≤ A.2.2.1.length ∧ xi_np Mj ≤ Mj.2.2.1 ∧ ((A.2.2.1.drop (xi_np Mj)).map fun v => v.category).sum ≤ 8 ∧ ((A.2.2.1.take (xi_np Mj)).all fun v => v.category == 1) = true ∧ sy_rcv Mj (A.2.2.1.take (xi_np Mj)).reverse A.2.2.2 = true
        then some (j, Mj, (A.2.2.1.take (xi_np Mj)).reverse, A.2.2.1.drop (xi_np Mj)) else none
      | none => none
    | _ => none
  | none => none
def sy_ret (bx : sy_B) (M : xi_M) (i : Instr) (A : sy_S) : Option (Option Value) := match i with
  | .ireturn => match A.2.2.1 with
    | [v] => match M.2.2.2.1 with
      | some .int => if sy_mv v = true then some (some v) else none
      | some .boolean => match sy_int bx v with
        | some x => if xi_fok .boolean (.int x) = true then some (some (.int x)) else none
        | none => none
      | _ => none
    | _ => none
  | .return_ => match A.2.2.1 with
    | [] => match M.2.2.2.1 with
      | none => some none
      | _ => none
    | _ => none
  | _ => none
def sy_end (ia : Nat → Nat → Option Instr) (j : Nat) (Mj : xi_M) (bx : sy_B) (T : sy_S) : Option (Option Value × sy_W) := match T with
  | (pc, L, st, w) => match ia j pc with
    | none => none
    | some i => match sy_ret bx Mj i (pc, L, st, w) with
      | none => none
      | some o => some (o, w)
def sy_go (mt : Nat → Option xi_M) (ia : Nat → Nat → Option Instr) (Z : List Int32) (S : List Value) : Nat → Nat → Nat → sy_B → sy_S → List (sy_B × sy_S)
  | 0, _, _, bx, A => [(bx, A)]
  | f + 1, d, n, bx, A => match mt n with
    | none => [(bx, A)]
    | some M => match ia n A.1 with
      | none => [(bx, A)]
      | some i => match sy_stp bx Z S M i A with
        | some B => sy_go mt ia Z S f d n bx B
        | none => match sy_fork bx i A.2.2.1 with
          | some (k, c) => if k < bx.length then (sy_cut bx k c).flatMap (fun b => sy_go mt ia Z S f d n b A) else [(bx, A)]
          | none => match d with
            | 0 => [(bx, A)]
            | d' + 1 => match sy_inv mt M i A with
              | none => [(bx, A)]
              | some (j, Mj, as, r) => (sy_go mt ia Z S f d' j bx (0, xi_ent Mj as, [], A.2.2.2)).flatMap (fun T => match sy_end ia j Mj T.1 T.2 with
                | none => [(T.1, A)]
                | some (o, w') => sy_go mt ia Z S f (d' + 1) n T.1 (A.1 + 3, A.2.1, o.toList ++ r, w'))
theorem sy_rcv_ok {ρ : Nat → Int32} {M : xi_M} {as : List Value} {w : sy_W} (h : sy_rcv M as w = true) : xi_rcv M (as.map (sy_v ρ)) (w.map (sy_e ρ)) = true := by
  unfold sy_rcv at h
  unfold xi_rcv
  split at h
  · next hk =>
    rw [hk]
    unfold sy_rcv0 at h
    split at h
    · next a r =>
      split at h
      · next cj fs hc =>
        show xi_rcv0 M (.ref a :: r.map (sy_v ρ)) (w.map (sy_e ρ)) = true
        unfold xi_rcv0
        dsimp only
        rw [sy_cell_ok hc]
        exact h
      · cases h
    · cases h
  · next hk => rw [hk]; rfl
  · next hk =>
    rw [hk]
    unfold xi_rcv2 at h
    split at h
    · rfl
    · cases h
  · cases h
theorem sy_inv_ok {mt : Nat → Option xi_M} (hmt : ∀ n M, mt n = some M → xi_ml[n]? = some M) {ρ : Nat → Int32} {M : xi_M} {i : Instr} {A : sy_S} {j : Nat} {Mj : xi_M} {as r : List Value} (h : sy_inv mt M i A = some (j, Mj, as, r)) : xi_inv M i (sy_s ρ A) = some (j, Mj, as.map (sy_v ρ), r.map (sy_v ρ)) := by
  obtain ⟨pc, L, st, w⟩ := A
  unfold sy_inv at h
  unfold xi_inv sy_s
  dsimp only at h ⊢
  split at h
  · next x kd hk =>
    split at h
    · next j' z hl =>
      split at h
      · next Mj' hj =>
        split at h
        · next hg =>
          cases h
          obtain ⟨g1, g2, g3, g4, g5, g6, g7⟩ := hg
          rw [hk]
          dsimp only
          rw [hl]
          split
          · next j2 z2 heq =>
            cases heq
            rw [hmt _ _ hj]
            dsimp only
            rw [if_pos]
            · rw [← List.map_take, ← List.map_reverse, ← List.map_drop]
            · refine ⟨g1, by rw [sy_Llen]; exact g2, by rw [List.length_map]; exact g3, g4, ?_, ?_, ?_⟩
              · rw [← List.map_drop, sy_cats]; exact g5
              · rw [← List.map_take, List.all_map]
                rw [List.all_eq_true] at g6 ⊢
                intro v hv
                show ((sy_v ρ v).category == 1) = true
                rw [sy_cat]
                exact g6 v hv
              · rw [← List.map_take, ← List.map_reverse]
                exact sy_rcv_ok g7
          · next hne => exact absurd rfl (hne _ _)
        · cases h
      · cases h
    · cases h
  · cases h
theorem sy_end_ok {ρ : Nat → Int32} {bx : sy_B} (hρ : sy_in bx ρ) {it : Nat → Nat → Option (Instr × Nat)} {ia : Nat → Nat → Option Instr} (hia : ∀ n pc i, ia n pc = some i → xi_at it n pc = some i) {j : Nat} {Mj : xi_M} {T : sy_S} {o : Option Value} {w' : sy_W} (h : sy_end ia j Mj bx T = some (o, w')) : xi_end it j Mj (sy_s ρ T) = some (o.map (sy_v ρ), w'.map (sy_e ρ)) := by
  obtain ⟨pc, L, st, w⟩ := T
  unfold sy_end at h
  unfold xi_end sy_s
  dsimp only at h ⊢
  split at h
  · cases h
  · next i hi =>
    rw [hia _ _ _ hi]
    dsimp only
    split at h
    · cases h
    · next o2 ho =>
      cases h
      have h1 : xi_ret Mj i (pc, sy_L ρ L, st.map (sy_v ρ), w'.map (sy_e ρ)) = some (o.map (sy_v ρ)) := by
        unfold sy_ret at ho
        unfold xi_ret
        split at ho
        · dsimp only at ho ⊢
          split at ho
          · next v =>
            split at ho
            · next hr =>
              split at ho
              · next hm =>
                cases ho
                show (match [sy_v ρ v] with
                  | [.int v] => match Mj.2.2.2.1 with
                    | some .int => some (some (Value.int v))
                    | some .boolean => if xi_fok .boolean (.int v) = true then some (some (Value.int v)) else none
                    | _ => none
                  | _ => none) = some (some (sy_v ρ v))
                rw [sy_mv_ok hm, hr]
              · cases ho
            · next hr =>
              split at ho
              · next x hx =>
                split at ho
                · next hf =>
                  cases ho
                  show (match [sy_v ρ v] with
                    | [.int v] => match Mj.2.2.2.1 with
                      | some .int => some (some (Value.int v))
                      | some .boolean => if xi_fok .boolean (.int v) = true then some (some (Value.int v)) else none
                      | _ => none
                    | _ => none) = some (some (.int x))
                  rw [(sy_int_ok hρ hx).1, hr]
                  dsimp only
                  rw [if_pos hf]
                · cases ho
              · cases ho
            · cases ho
          · cases ho
        · dsimp only at ho ⊢
          split at ho
          · split at ho
            · next hr =>
              cases ho
              rw [hr]
              rfl
            · cases ho
          · cases ho
        · cases ho
      rw [h1]
theorem sy_ent (ρ : Nat → Int32) (M : xi_M) (as : List Value) : xi_ent M (as.map (sy_v ρ)) = sy_L ρ (xi_ent M as) := by
  unfold xi_ent sy_L
  rw [List.map_append, List.map_map, List.map_map, List.map_replicate, List.length_map]
  rfl
theorem sy_go_ok {mt : Nat → Option xi_M} (hmt : ∀ n M, mt n = some M → xi_ml[n]? = some M) {it : Nat → Nat → Option (Instr × Nat)} (hit : ∀ n M pc i len, xi_ml[n]? = some M → it n pc = some (i, len) → decode M.2.1 pc = .ok (i, len)) {ia : Nat → Nat → Option Instr} (hia : ∀ n pc i, ia n pc = some i → xi_at it n pc = some i) {Y : xi_Y} {Z : List Int32} {S : List Value} {ρ : Nat → Int32} (hZ : Y.2.2.2.2.2.1 = Z) (hS : Y.2.2.2.2.2.2.1 = S.map (sy_i ρ)) :
    ∀ (f d n : Nat) (bx : sy_B) (A : sy_S), sy_in bx ρ → ∃ T ∈ sy_go mt ia Z S f d n bx A, sy_in T.1 ρ ∧ xi_To Y d n (sy_s ρ A) (sy_s ρ T.2) := by
  intro f
  induction f with
  | zero => intro d n bx A hb; exact ⟨(bx, A), List.mem_singleton.mpr rfl, hb, xi_To.rf Y d n _⟩
  | succ f ih =>
    intro d n bx A hb
    have here : ∃ T ∈ [(bx, A)], sy_in T.1 ρ ∧ xi_To Y d n (sy_s ρ A) (sy_s ρ T.2) := ⟨(bx, A), List.mem_singleton.mpr rfl, hb, xi_To.rf Y d n _⟩
    unfold sy_go
    split
    · exact here
    · next M hM0 =>
      have hM := hmt _ _ hM0
      split
      · exact here
      · next i hi0 =>
        have hi := hia _ _ _ hi0
        have hd : ∃ len, decode M.2.1 (sy_s ρ A).1 = .ok (i, len) ∧ (xi_sw i = true ∨ xi_len i = len) := by
          unfold xi_at at hi
          split at hi
          · next i3 len hi3 =>
            split at hi
            · next hlen => cases hi; exact ⟨len, hit n M A.1 _ len hM hi3, hlen⟩
            · cases hi
          · cases hi
        obtain ⟨len, hd, hlen⟩ := hd
        split
        · next B hB =>
          have h1 := sy_stp_ok hb hB
          rw [← hS, ← hZ] at h1
          obtain ⟨T, hT, h2, h3⟩ := ih d n bx B hb
          exact ⟨T, hT, h2, (xi_stp_ok hM hd hlen h1).trans h3⟩
        · split
          · next k c hk =>
            split
            · next hkl =>
              obtain ⟨b, hb1, hb2⟩ := sy_cut_ok hb (c := c) hkl
              obtain ⟨T, hT, h2, h3⟩ := ih d n b A hb2
              exact ⟨T, List.mem_flatMap.mpr ⟨b, hb1, hT⟩, h2, h3⟩
            · exact here
          · split
            · exact here
            · next d' =>
              split
              · exact here
              · next j Mj as r hinv =>
                have hinv' := sy_inv_ok hmt (ρ := ρ) hinv
                obtain ⟨x, z, hk, hl, hj, hL, hst, hal, ham, hcr, hca, hrc⟩ := xi_inv_spec hinv'
                obtain ⟨T, hT, h2, h3⟩ := ih d' j bx (0, xi_ent Mj as, [], A.2.2.2) hb
                cases he : sy_end ia j Mj T.1 T.2 with
                | none =>
                  refine ⟨(T.1, A), List.mem_flatMap.mpr ⟨T, hT, ?_⟩, h2, xi_To.rf Y _ n _⟩
                  rw [he]
                  exact List.mem_singleton.mpr rfl
                | some q =>
                  obtain ⟨o, w'⟩ := q
                  have he' := sy_end_ok h2 hia he
                  obtain ⟨T2, hT2, h4, h5⟩ := ih (d' + 1) n T.1 (A.1 + 3, A.2.1, o.toList ++ r, w') h2
                  refine ⟨T2, List.mem_flatMap.mpr ⟨T, hT, ?_⟩, h4, ?_⟩
                  · rw [he]; exact hT2
                  · have h6 : xi_To Y d' j (0, xi_ent Mj (as.map (sy_v ρ)), [], (sy_s ρ A).2.2.2) (sy_s ρ T.2) := by
                      rw [sy_ent]
                      exact h3
                    have h7 := xi_call hM hd hlen hinv' (xi_C.of hit hj h6 he' hca ham)
                    have h8 : (sy_s ρ (A.1 + 3, A.2.1, o.toList ++ r, w')) = ((sy_s ρ A).1 + 3, (sy_s ρ A).2.1, (o.map (sy_v ρ)).toList ++ r.map (sy_v ρ), w'.map (sy_e ρ)) := by
                      unfold sy_s
                      dsimp only
                      rw [List.map_append]
                      cases o <;> rfl
                    rw [h8] at h5
                    exact h7.trans h5
