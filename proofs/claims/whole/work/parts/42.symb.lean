/-! What a step with unknowns says, the interpreter does, whatever they are. -/
theorem sy_ld {ρ : Nat → Int32} {L : xi_L} {k : Nat} {v : Value} (h : xi_ld L k = some v) : xi_ld (sy_L ρ L) k = some (sy_v ρ v) := by
  unfold xi_ld at h ⊢
  unfold sy_L
  rw [List.getElem?_map]
  split at h
  · next u hu => cases h; rw [hu]; rfl
  · cases h
theorem sy_mv_ok {ρ : Nat → Int32} {v : Value} (h : sy_mv v = true) : sy_v ρ v = .int (sy_i ρ v) := by
  unfold sy_mv at h
  split at h
  · rfl
  · rfl
  · cases h
theorem sy_cell_ok {ρ : Nat → Int32} {w : sy_W} {a : Nat} {x : sy_E} (h : sy_cell w a = some x) : xi_cell (w.map (sy_e ρ)) a = some (sy_e ρ x) := by
  unfold sy_cell at h
  split at h
  · next k =>
    show (w.map (sy_e ρ))[k]? = _
    rw [List.getElem?_map, h]
    rfl
  · cases h
theorem sy_put_ok {ρ : Nat → Int32} {w : sy_W} {a : Nat} {x : sy_E} : xi_put (w.map (sy_e ρ)) a (sy_e ρ x) = (w.set (a - 2) x).map (sy_e ρ) := by
  unfold xi_put
  rw [List.map_set]
theorem sy_cats (ρ : Nat → Int32) (st : List Value) : ((st.map (sy_v ρ)).map fun v => v.category).sum = (st.map fun v => v.category).sum := by
  rw [List.map_map]
  congr 1
  exact List.map_congr_left fun v _ => by cases v <;> rfl
theorem sy_cat (ρ : Nat → Int32) (v : Value) : (sy_v ρ v).category = v.category := by cases v <;> rfl
theorem sy_Lset {ρ : Nat → Int32} {L : xi_L} {k : Nat} {v : Value} : (sy_L ρ L).set k (some (sy_v ρ v)) = sy_L ρ (L.set k (some v)) := by
  unfold sy_L
  rw [List.map_set]
  rfl
theorem sy_Llen (ρ : Nat → Int32) (L : xi_L) : (sy_L ρ L).length = L.length := List.length_map ..
section SY
variable {bx : sy_B} {ρ : Nat → Int32} {pc : Nat} {L : xi_L} {st : List Value} {w : sy_W} {B : sy_S}
theorem sy_ldi_ok {k len : Nat} (h : sy_ldi k len pc L st w = some B) : xi_ldi k len pc (sy_L ρ L) (st.map (sy_v ρ)) (w.map (sy_e ρ)) = some (sy_s ρ B) := by
  unfold sy_ldi at h
  split at h
  · next v hv =>
    split at h
    · next hm =>
      cases h
      have h1 := sy_mv_ok (ρ := ρ) hm
      unfold xi_ldi
      rw [sy_ld hv, h1]
      simp only [sy_s, List.map_cons, h1]
    · cases h
  · cases h
theorem sy_lda_ok {k len : Nat} (h : sy_lda k len pc L st w = some B) : xi_lda k len pc (sy_L ρ L) (st.map (sy_v ρ)) (w.map (sy_e ρ)) = some (sy_s ρ B) := by
  unfold sy_lda at h
  split at h
  · next v hv =>
    cases h
    unfold xi_lda
    rw [sy_ld hv]
    rfl
  · cases h
theorem sy_sti_ok {k len : Nat} (h : sy_sti k len pc L st w = some B) : xi_sti k len pc (sy_L ρ L) (st.map (sy_v ρ)) (w.map (sy_e ρ)) = some (sy_s ρ B) := by
  unfold sy_sti at h
  split at h
  · next v r =>
    split at h
    · next hm =>
      cases h
      have h1 := sy_mv_ok (ρ := ρ) hm.1
      unfold xi_sti
      rw [List.map_cons, h1]
      dsimp only
      rw [if_pos (by rw [sy_Llen]; exact hm.2), ← h1, sy_Lset]
      rfl
    · cases h
  · cases h
theorem sy_sta_ok {k len : Nat} (h : sy_sta k len pc L st w = some B) : xi_sta k len pc (sy_L ρ L) (st.map (sy_v ρ)) (w.map (sy_e ρ)) = some (sy_s ρ B) := by
  unfold sy_sta at h
  split at h
  · next x r =>
    split at h
    · next hm =>
      cases h
      show (if k < (sy_L ρ L).length then some (pc + len, (sy_L ρ L).set k (some (sy_v ρ (.ref x))), r.map (sy_v ρ), w.map (sy_e ρ)) else none) = _
      rw [if_pos (by rw [sy_Llen]; exact hm), sy_Lset]
      rfl
    · cases h
  · cases h
theorem sy_inc_ok (hρ : sy_in bx ρ) {k : Nat} {z : Int} (h : sy_inc bx k z pc L st w = some B) : xi_inc k z pc (sy_L ρ L) (st.map (sy_v ρ)) (w.map (sy_e ρ)) = some (sy_s ρ B) := by
  unfold sy_inc at h
  split at h
  · next v hv =>
    split at h
    · next x hx =>
      cases h
      unfold xi_inc
      rw [sy_ld hv, (sy_int_ok hρ hx).1]
      show some (pc + 3, (sy_L ρ L).set k (some (sy_v ρ (.int (x + Int32.ofInt z)))), st.map (sy_v ρ), w.map (sy_e ρ)) = _
      rw [sy_Lset]
      rfl
    · cases h
  · cases h
theorem sy_bin_ok (hρ : sy_in bx ρ) {op : Int32 → Int32 → Int32} (h : sy_bin bx op pc L st w = some B) : xi_bin op pc (sy_L ρ L) (st.map (sy_v ρ)) (w.map (sy_e ρ)) = some (sy_s ρ B) := by
  unfold sy_bin at h
  split at h
  · next v u r =>
    split at h
    · next y x hy hx =>
      cases h
      rw [List.map_cons, List.map_cons, (sy_int_ok hρ hy).1, (sy_int_ok hρ hx).1]
      rfl
    · cases h
  · cases h
theorem sy_i2l_ok (hρ : sy_in bx ρ) (h : sy_i2l bx pc L st w = some B) : xi_i2l pc (sy_L ρ L) (st.map (sy_v ρ)) (w.map (sy_e ρ)) = some (sy_s ρ B) := by
  unfold sy_i2l at h
  split at h
  · next v r =>
    split at h
    · next x hx =>
      cases h
      rw [List.map_cons, (sy_int_ok hρ hx).1]
      rfl
    · cases h
  · cases h
theorem sy_lcmp_ok (h : sy_lcmp pc L st w = some B) : xi_lcmp pc (sy_L ρ L) (st.map (sy_v ρ)) (w.map (sy_e ρ)) = some (sy_s ρ B) := by
  unfold sy_lcmp at h
  split at h
  · cases h; rfl
  · cases h
theorem sy_dup_ok (h : sy_dup pc L st w = some B) : xi_dup pc (sy_L ρ L) (st.map (sy_v ρ)) (w.map (sy_e ρ)) = some (sy_s ρ B) := by
  unfold sy_dup at h
  split at h
  · split at h
    · next hc =>
      cases h
      unfold xi_dup
      rw [List.map_cons]
      dsimp only
      rw [if_pos (by rw [sy_cat]; exact hc)]
      rfl
    · cases h
  · cases h
theorem sy_dup2_ok (h : sy_dup2 pc L st w = some B) : xi_dup2 pc (sy_L ρ L) (st.map (sy_v ρ)) (w.map (sy_e ρ)) = some (sy_s ρ B) := by
  unfold sy_dup2 at h
  split at h
  · split at h
    · next hc =>
      cases h
      unfold xi_dup2
      rw [List.map_cons, List.map_cons]
      dsimp only
      rw [if_pos (by rw [sy_cat, sy_cat]; exact hc)]
      rfl
    · cases h
  · cases h
theorem sy_pop_ok (h : sy_pop pc L st w = some B) : xi_pop pc (sy_L ρ L) (st.map (sy_v ρ)) (w.map (sy_e ρ)) = some (sy_s ρ B) := by
  unfold sy_pop at h
  split at h
  · split at h
    · next hc =>
      cases h
      unfold xi_pop
      rw [List.map_cons]
      dsimp only
      rw [if_pos (by rw [sy_cat]; exact hc)]
      rfl
    · cases h
  · cases h
theorem sy_go1_ok {off : Int} (h : sy_go1 off pc L st w = some B) : xi_go1 off pc (sy_L ρ L) (st.map (sy_v ρ)) (w.map (sy_e ρ)) = some (sy_s ρ B) := by
  unfold sy_go1 at h
  split at h
  · next hp => cases h; unfold xi_go1; rw [if_pos hp]; rfl
  · cases h
theorem sy_if1_ok (hρ : sy_in bx ρ) {t : (Int × Int) → (Int × Int) → Option Bool} {tt : Int32 → Bool} (ht : ∀ (q : Int × Int) (x : Int32) (b : Bool), t q (0, 0) = some b → q.1 ≤ x.toInt ∧ x.toInt ≤ q.2 → tt x = b) {off : Int} (h : sy_if1 bx t off pc L st w = some B) : xi_if1 tt off pc (sy_L ρ L) (st.map (sy_v ρ)) (w.map (sy_e ρ)) = some (sy_s ρ B) := by
  unfold sy_if1 at h
  split at h
  · next v r =>
    split at h
    · next q hq =>
      split at h
      · next b hb =>
        split at h
        · next hp =>
          cases h
          obtain ⟨x, hx, hi⟩ := sy_rng_ok hρ hq
          rw [List.map_cons, hx]
          unfold xi_if1
          dsimp only
          rw [if_pos hp, ht q x b hb hi]
          rfl
        · cases h
      · cases h
    · cases h
  · cases h
theorem sy_if2_ok (hρ : sy_in bx ρ) {t : (Int × Int) → (Int × Int) → Option Bool} {tt : Int32 → Int32 → Bool} (ht : ∀ (q r : Int × Int) (x y : Int32) (b : Bool), t q r = some b → q.1 ≤ x.toInt ∧ x.toInt ≤ q.2 → r.1 ≤ y.toInt ∧ y.toInt ≤ r.2 → tt x y = b) {off : Int} (h : sy_if2 bx t off pc L st w = some B) : xi_if2 tt off pc (sy_L ρ L) (st.map (sy_v ρ)) (w.map (sy_e ρ)) = some (sy_s ρ B) := by
  unfold sy_if2 at h
  split at h
  · next v u r =>
    split at h
    · next qy qx hqy hqx =>
      split at h
      · next b hb =>
        split at h
        · next hp =>
          cases h
          obtain ⟨y, hy, hiy⟩ := sy_rng_ok hρ hqy
          obtain ⟨x, hx, hix⟩ := sy_rng_ok hρ hqx
          rw [List.map_cons, List.map_cons, hy, hx]
          unfold xi_if2
          dsimp only
          rw [if_pos hp, ht qx qy x y b hb hix hiy]
          rfl
        · cases h
      · cases h
    · cases h
  · cases h
theorem sy_tab_ok (hρ : sy_in bx ρ) {dd lo hi : Int} {offs : Array Int} (h : sy_tab bx dd lo hi offs pc L st w = some B) : xi_tab dd lo hi offs pc (sy_L ρ L) (st.map (sy_v ρ)) (w.map (sy_e ρ)) = some (sy_s ρ B) := by
  unfold sy_tab at h
  split at h
  · next v r =>
    split at h
    · next q hq =>
      obtain ⟨x, hx, hi1, hi2⟩ := sy_rng_ok hρ hq
      split at h
      · next ho =>
        rw [List.map_cons, hx]
        unfold xi_tab
        dsimp only
        rw [if_pos (by omega)]
        exact sy_go1_ok h
      · split at h
        · next y hy =>
          have hxy : x = y := by
            have h9 := hx.symm.trans (sy_int_ok hρ hy).1
            cases h9
            rfl
          subst hxy
          split at h
          · cases h
          · next hn =>
            split at h
            · next o hoo =>
              rw [List.map_cons, hx]
              unfold xi_tab
              dsimp only
              rw [if_neg hn, hoo]
              exact sy_go1_ok h
            · cases h
        · cases h
    · cases h
  · cases h
theorem sy_lok_ok (hρ : sy_in bx ρ) {dd : Int} {ps : Array (Int × Int)} (h : sy_lok bx dd ps pc L st w = some B) : xi_lok dd ps pc (sy_L ρ L) (st.map (sy_v ρ)) (w.map (sy_e ρ)) = some (sy_s ρ B) := by
  unfold sy_lok at h
  split at h
  · next v r =>
    split at h
    · next x hx =>
      split at h
      · next hp =>
        rw [List.map_cons, (sy_int_ok hρ hx).1]
        unfold xi_lok
        dsimp only
        rw [if_pos hp]
        exact sy_go1_ok h
      · cases h
    · cases h
  · cases h
theorem sy_getD {vs : List Value} {j : Nat} {u : Value} (h : vs[j]? = some u) : (vs.map (sy_i ρ)).getD j 0 = sy_i ρ u := by
  rw [List.getD_eq_getElem?_getD, List.getElem?_map, h]
  rfl
theorem sy_iald_ok (hρ : sy_in bx ρ) {Z : List Int32} {S : List Value} (h : sy_iald bx Z S pc L st w = some B) : xi_iald Z (S.map (sy_i ρ)) pc (sy_L ρ L) (st.map (sy_v ρ)) (w.map (sy_e ρ)) = some (sy_s ρ B) := by
  unfold sy_iald at h
  split at h
  · next v a r =>
    split at h
    · next j hj =>
      rw [List.map_cons, List.map_cons, (sy_int_ok hρ hj).1]
      split at h
      · split at h
        · cases h
        · next hn =>
          cases h
          show (if j < 0 ∨ Z.length ≤ j.toNatClampNeg then none else some (pc + 1, sy_L ρ L, Value.int (Z.getD j.toNatClampNeg 0) :: r.map (sy_v ρ), w.map (sy_e ρ))) = _
          rw [if_neg hn]
          rfl
      · split at h
        · cases h
        · next hn =>
          split at h
          · next u hu =>
            split at h
            · next hm =>
              cases h
              show (if j < 0 ∨ (S.map (sy_i ρ)).length ≤ j.toNatClampNeg then none else some (pc + 1, sy_L ρ L, Value.int ((S.map (sy_i ρ)).getD j.toNatClampNeg 0) :: r.map (sy_v ρ), w.map (sy_e ρ))) = _
              rw [List.length_map, if_neg hn, sy_getD hu, ← sy_mv_ok hm]
              rfl
            · cases h
          · cases h
      · next k =>
        split at h
        · next t vs hw =>
          split at h
          · next ht =>
            subst ht
            split at h
            · cases h
            · next hn =>
              split at h
              · next u hu =>
                split at h
                · next hm =>
                  cases h
                  have h1 : (w.map (sy_e ρ))[k]? = some (.inl (0, .inl (vs.map (sy_i ρ)))) := by rw [List.getElem?_map, hw]; rfl
                  show xi_iald Z (S.map (sy_i ρ)) pc (sy_L ρ L) (.int j :: .ref (k + 2) :: r.map (sy_v ρ)) (w.map (sy_e ρ)) = _
                  unfold xi_iald xi_ia
                  dsimp only
                  rw [h1]
                  show (if j < 0 ∨ (vs.map (sy_i ρ)).length ≤ j.toNatClampNeg then none else some (pc + 1, sy_L ρ L, Value.int ((vs.map (sy_i ρ)).getD j.toNatClampNeg 0) :: r.map (sy_v ρ), w.map (sy_e ρ))) = _
                  rw [List.length_map, if_neg hn, sy_getD hu, ← sy_mv_ok hm]
                  rfl
                · cases h
              · cases h
          · cases h
        · cases h
    · cases h
  · cases h
theorem sy_zald_ok (hρ : sy_in bx ρ) (h : sy_zald bx pc L st w = some B) : xi_zald pc (sy_L ρ L) (st.map (sy_v ρ)) (w.map (sy_e ρ)) = some (sy_s ρ B) := by
  unfold sy_zald at h
  split at h
  · next v a r =>
    split at h
    · next j hj =>
      split at h
      · next t vs hw =>
        split at h
        · next ht =>
          subst ht
          split at h
          · cases h
          · next hn =>
            split at h
            · next u hu =>
              split at h
              · next hm =>
                cases h
                have h1 : xi_cell (w.map (sy_e ρ)) a = some (.inl (1, .inl (vs.map (sy_i ρ)))) := sy_cell_ok hw
                rw [List.map_cons, List.map_cons, (sy_int_ok hρ hj).1]
                show xi_zald pc (sy_L ρ L) (.int j :: .ref a :: r.map (sy_v ρ)) (w.map (sy_e ρ)) = _
                unfold xi_zald
                dsimp only
                rw [h1]
                show (if j < 0 ∨ (vs.map (sy_i ρ)).length ≤ j.toNatClampNeg then none else some (pc + 1, sy_L ρ L, Value.int ((vs.map (sy_i ρ)).getD j.toNatClampNeg 0) :: r.map (sy_v ρ), w.map (sy_e ρ))) = _
                rw [List.length_map, if_neg hn, sy_getD hu, ← sy_mv_ok hm]
                rfl
              · cases h
            · cases h
        · cases h
      · cases h
    · cases h
  · cases h
theorem sy_lald_ok (hρ : sy_in bx ρ) (h : sy_lald bx pc L st w = some B) : xi_lald pc (sy_L ρ L) (st.map (sy_v ρ)) (w.map (sy_e ρ)) = some (sy_s ρ B) := by
  unfold sy_lald at h
  split at h
  · next v a r =>
    split at h
    · next j hj =>
      split at h
      · next t vs hw =>
        split at h
        · next ht =>
          subst ht
          split at h
          · cases h
          · next hn =>
            split at h
            · next u hu =>
              cases h
              have h1 : xi_cell (w.map (sy_e ρ)) a = some (.inl (2, .inr (vs.map sy_l))) := sy_cell_ok hw
              have h2 : (vs.map sy_l).getD j.toNatClampNeg 0 = u := by
                rw [List.getD_eq_getElem?_getD, List.getElem?_map, hu]
                rfl
              rw [List.map_cons, List.map_cons, (sy_int_ok hρ hj).1]
              show xi_lald pc (sy_L ρ L) (.int j :: .ref a :: r.map (sy_v ρ)) (w.map (sy_e ρ)) = _
              unfold xi_lald
              dsimp only
              rw [h1]
              show (if j < 0 ∨ (vs.map sy_l).length ≤ j.toNatClampNeg then none else some (pc + 1, sy_L ρ L, Value.long ((vs.map sy_l).getD j.toNatClampNeg 0) :: r.map (sy_v ρ), w.map (sy_e ρ))) = _
              rw [List.length_map, if_neg hn, h2]
              rfl
            · cases h
        · cases h
      · cases h
    · cases h
  · cases h
theorem sy_iast_ok (hρ : sy_in bx ρ) (h : sy_iast bx pc L st w = some B) : xi_iast pc (sy_L ρ L) (st.map (sy_v ρ)) (w.map (sy_e ρ)) = some (sy_s ρ B) := by
  unfold sy_iast at h
  split at h
  · next u v a r =>
    split at h
    · next j hj =>
      split at h
      · next t vs hw =>
        split at h
        · next ht =>
          obtain ⟨ht, hm⟩ := ht
          subst ht
          split at h
          · cases h
          · next hn =>
            cases h
            have h1 : xi_cell (w.map (sy_e ρ)) a = some (.inl (0, .inl (vs.map (sy_i ρ)))) := sy_cell_ok hw
            rw [List.map_cons, List.map_cons, List.map_cons, (sy_int_ok hρ hj).1, sy_mv_ok hm]
            show xi_iast pc (sy_L ρ L) (.int (sy_i ρ u) :: .int j :: .ref a :: r.map (sy_v ρ)) (w.map (sy_e ρ)) = _
            unfold xi_iast
            dsimp only
            rw [h1]
            show (if j < 0 ∨ (vs.map (sy_i ρ)).length ≤ j.toNatClampNeg then none else some (pc + 1, sy_L ρ L, r.map (sy_v ρ), xi_put (w.map (sy_e ρ)) a (.inl (0, .inl ((vs.map (sy_i ρ)).set j.toNatClampNeg (sy_i ρ u)))))) = _
            rw [List.length_map, if_neg hn, ← List.map_set]
            show some (pc + 1, sy_L ρ L, r.map (sy_v ρ), xi_put (w.map (sy_e ρ)) a (sy_e ρ (.inl (0, vs.set j.toNatClampNeg u)))) = _
            rw [sy_put_ok]
            rfl
        · cases h
      · cases h
    · cases h
  · cases h
theorem sy_zast_ok (hρ : sy_in bx ρ) (h : sy_zast bx pc L st w = some B) : xi_zast pc (sy_L ρ L) (st.map (sy_v ρ)) (w.map (sy_e ρ)) = some (sy_s ρ B) := by
  unfold sy_zast at h
  split at h
  · next u v a r =>
    split at h
    · next j x hj hx =>
      split at h
      · next t vs hw =>
        split at h
        · next ht =>
          subst ht
          split at h
          · cases h
          · next hn =>
            cases h
            have h1 : xi_cell (w.map (sy_e ρ)) a = some (.inl (1, .inl (vs.map (sy_i ρ)))) := sy_cell_ok hw
            rw [List.map_cons, List.map_cons, List.map_cons, (sy_int_ok hρ hj).1, (sy_int_ok hρ hx).1]
            show xi_zast pc (sy_L ρ L) (.int x :: .int j :: .ref a :: r.map (sy_v ρ)) (w.map (sy_e ρ)) = _
            unfold xi_zast
            dsimp only
            rw [h1]
            show (if j < 0 ∨ (vs.map (sy_i ρ)).length ≤ j.toNatClampNeg then none else some (pc + 1, sy_L ρ L, r.map (sy_v ρ), xi_put (w.map (sy_e ρ)) a (.inl (1, .inl ((vs.map (sy_i ρ)).set j.toNatClampNeg (vp_nar .boolean x)))))) = _
            rw [List.length_map, if_neg hn]
            have h2 : (vs.map (sy_i ρ)).set j.toNatClampNeg (vp_nar .boolean x) = (vs.set j.toNatClampNeg (.int (vp_nar .boolean x))).map (sy_i ρ) := by rw [List.map_set]; rfl
            rw [h2]
            show some (pc + 1, sy_L ρ L, r.map (sy_v ρ), xi_put (w.map (sy_e ρ)) a (sy_e ρ (.inl (1, vs.set j.toNatClampNeg (.int (vp_nar .boolean x)))))) = _
            rw [sy_put_ok]
            rfl
        · cases h
      · cases h
    · cases h
  · cases h
theorem sy_last_ok (hρ : sy_in bx ρ) (h : sy_last bx pc L st w = some B) : xi_last pc (sy_L ρ L) (st.map (sy_v ρ)) (w.map (sy_e ρ)) = some (sy_s ρ B) := by
  unfold sy_last at h
  split at h
  · next x v a r =>
    split at h
    · next j hj =>
      split at h
      · next t vs hw =>
        split at h
        · next ht =>
          subst ht
          split at h
          · cases h
          · next hn =>
            cases h
            have h1 : xi_cell (w.map (sy_e ρ)) a = some (.inl (2, .inr (vs.map sy_l))) := sy_cell_ok hw
            rw [List.map_cons, List.map_cons, List.map_cons, (sy_int_ok hρ hj).1]
            show xi_last pc (sy_L ρ L) (.long x :: .int j :: .ref a :: r.map (sy_v ρ)) (w.map (sy_e ρ)) = _
            unfold xi_last
            dsimp only
            rw [h1]
            show (if j < 0 ∨ (vs.map sy_l).length ≤ j.toNatClampNeg then none else some (pc + 1, sy_L ρ L, r.map (sy_v ρ), xi_put (w.map (sy_e ρ)) a (.inl (2, .inr ((vs.map sy_l).set j.toNatClampNeg x))))) = _
            rw [List.length_map, if_neg hn]
            have h2 : (vs.map sy_l).set j.toNatClampNeg x = (vs.set j.toNatClampNeg (.long x)).map sy_l := by rw [List.map_set]; rfl
            rw [h2]
            show some (pc + 1, sy_L ρ L, r.map (sy_v ρ), xi_put (w.map (sy_e ρ)) a (sy_e ρ (.inl (2, vs.set j.toNatClampNeg (.long x))))) = _
            rw [sy_put_ok]
            rfl
        · cases h
      · cases h
    · cases h
  · cases h
theorem sy_alen_ok {Z : List Int32} {S : List Value} (h : sy_alen Z S pc L st w = some B) : xi_alen Z (S.map (sy_i ρ)) pc (sy_L ρ L) (st.map (sy_v ρ)) (w.map (sy_e ρ)) = some (sy_s ρ B) := by
  unfold sy_alen at h
  split at h
  · next a r =>
    split at h
    · cases h; rfl
    · cases h
      show some (pc + 1, sy_L ρ L, Value.int (Int32.ofNat (S.map (sy_i ρ)).length) :: r.map (sy_v ρ), w.map (sy_e ρ)) = _
      rw [List.length_map]
      rfl
    · next k =>
      split at h
      · next t vs hw =>
        split at h
        · next ht =>
          subst ht
          cases h
          have h1 : (w.map (sy_e ρ))[k]? = some (.inl (0, .inl (vs.map (sy_i ρ)))) := by rw [List.getElem?_map, hw]; rfl
          show xi_alen Z (S.map (sy_i ρ)) pc (sy_L ρ L) (.ref (k + 2) :: r.map (sy_v ρ)) (w.map (sy_e ρ)) = _
          unfold xi_alen xi_ia
          dsimp only
          rw [h1]
          show some (pc + 1, sy_L ρ L, Value.int (Int32.ofNat (vs.map (sy_i ρ)).length) :: r.map (sy_v ρ), w.map (sy_e ρ)) = _
          rw [List.length_map]
          rfl
        · cases h
      · cases h
  · cases h
theorem sy_get_ok {q : Option (Nat × Nat)} (h : sy_get q pc L st w = some B) : xi_get q pc (sy_L ρ L) (st.map (sy_v ρ)) (w.map (sy_e ρ)) = some (sy_s ρ B) := by
  unfold sy_get at h
  split at h
  · next ci k =>
    split at h
    · next a r =>
      split at h
      · next cj fs hw =>
        split at h
        · next hc =>
          split at h
          · next v hv =>
            cases h
            have h1 : xi_cell (w.map (sy_e ρ)) a = some (.inr (cj, fs.map (sy_v ρ))) := sy_cell_ok hw
            have h2 : (fs.map (sy_v ρ))[k]? = some (sy_v ρ v) := by rw [List.getElem?_map, hv]; rfl
            show xi_get (some (ci, k)) pc (sy_L ρ L) (.ref a :: r.map (sy_v ρ)) (w.map (sy_e ρ)) = _
            unfold xi_get
            dsimp only
            rw [h1]
            dsimp only
            rw [if_pos hc, h2]
            rfl
          · cases h
        · cases h
      · cases h
    · cases h
  · cases h
theorem sy_fok_ok {ty : FieldType} {v : Value} (h : sy_fok ty v = true) : xi_fok ty (sy_v ρ v) = true := by
  unfold sy_fok at h
  split at h
  · rfl
  · cases v <;> first | exact h | (cases ty <;> first | rfl | cases h)
theorem sy_set_ok {q : Option (Nat × Nat)} {ty : FieldType} {b : Bool} (h : sy_set q ty b pc L st w = some B) : xi_set q ty b pc (sy_L ρ L) (st.map (sy_v ρ)) (w.map (sy_e ρ)) = some (sy_s ρ B) := by
  unfold sy_set at h
  split at h
  · next ci k =>
    split at h
    · next v a r =>
      split at h
      · next cj fs hw =>
        split at h
        · next hc =>
          cases h
          have h1 : xi_cell (w.map (sy_e ρ)) a = some (.inr (cj, fs.map (sy_v ρ))) := sy_cell_ok hw
          show xi_set (some (ci, k)) ty b pc (sy_L ρ L) (sy_v ρ v :: .ref a :: r.map (sy_v ρ)) (w.map (sy_e ρ)) = _
          unfold xi_set
          dsimp only
          rw [h1]
          dsimp only
          rw [if_pos ⟨hc.1, by rw [List.length_map]; exact hc.2.1, hc.2.2.1, sy_fok_ok hc.2.2.2⟩, ← List.map_set]
          show some (pc + 3, sy_L ρ L, r.map (sy_v ρ), xi_put (w.map (sy_e ρ)) a (sy_e ρ (.inr (cj, fs.set k v)))) = _
          rw [sy_put_ok]
          rfl
        · cases h
      · cases h
    · cases h
  · cases h
theorem sy_dfl (ρ : Nat → Int32) (ci : Nat) : (xi_dfl ci).map (sy_v ρ) = xi_dfl ci := by
  unfold xi_dfl
  split
  · rw [List.map_map]
    exact List.map_congr_left fun k _ => by
      show sy_v ρ (defaultValue (xi_tt ci k)) = _
      cases xi_tt ci k <;> rfl
  · rfl
theorem sy_new_ok {q : Option Nat} (h : sy_new q xi_dfl pc L st w = some B) : xi_new q xi_dfl pc (sy_L ρ L) (st.map (sy_v ρ)) (w.map (sy_e ρ)) = some (sy_s ρ B) := by
  unfold sy_new at h
  split at h
  · next ci =>
    cases h
    unfold xi_new
    dsimp only
    rw [List.length_map]
    show _ = some (pc + 3, sy_L ρ L, (Value.ref (w.length + 2) :: st).map (sy_v ρ), (w ++ [(Sum.inr (ci, xi_dfl ci) : sy_E)]).map (sy_e ρ))
    rw [List.map_append]
    show _ = some (pc + 3, sy_L ρ L, (Value.ref (w.length + 2) :: st).map (sy_v ρ), w.map (sy_e ρ) ++ [(Sum.inr (ci, (xi_dfl ci).map (sy_v ρ)) : xi_E)])
    rw [sy_dfl]
    rfl
  · cases h
theorem sy_newa_ok (hρ : sy_in bx ρ) {t : ArrayType} (h : sy_newa bx t pc L st w = some B) : xi_newa t pc (sy_L ρ L) (st.map (sy_v ρ)) (w.map (sy_e ρ)) = some (sy_s ρ B) := by
  unfold sy_newa at h
  split at h
  · next v r =>
    split at h
    · next z hz =>
      split at h
      · cases h
      · next hn =>
        rw [List.map_cons, (sy_int_ok hρ hz).1]
        unfold xi_newa
        dsimp only
        rw [if_neg hn]
        split at h
        · cases h
          dsimp only
          rw [List.length_map]
          unfold sy_s
          dsimp only
          rw [List.map_append, List.map_singleton]
          show _ = some (pc + 2, sy_L ρ L, _, w.map (sy_e ρ) ++ [(Sum.inl (0, Sum.inl ((List.replicate z.toNatClampNeg (Value.int 0)).map (sy_i ρ))) : xi_E)])
          rw [List.map_replicate]
          rfl
        · cases h
          dsimp only
          rw [List.length_map]
          unfold sy_s
          dsimp only
          rw [List.map_append, List.map_singleton]
          show _ = some (pc + 2, sy_L ρ L, _, w.map (sy_e ρ) ++ [(Sum.inl (1, Sum.inl ((List.replicate z.toNatClampNeg (Value.int 0)).map (sy_i ρ))) : xi_E)])
          rw [List.map_replicate]
          rfl
        · cases h
          dsimp only
          rw [List.length_map]
          unfold sy_s
          dsimp only
          rw [List.map_append, List.map_singleton]
          show _ = some (pc + 2, sy_L ρ L, _, w.map (sy_e ρ) ++ [(Sum.inl (2, Sum.inr ((List.replicate z.toNatClampNeg (Value.long 0)).map sy_l)) : xi_E)])
          rw [List.map_replicate]
          rfl
        · cases h
    · cases h
  · cases h
theorem sy_oin_ok {b : Bool} (h : sy_oin b pc L st w = some B) : xi_oin b pc (sy_L ρ L) (st.map (sy_v ρ)) (w.map (sy_e ρ)) = some (sy_s ρ B) := by
  unfold sy_oin at h
  split at h
  · next a r =>
    split at h
    · next hc =>
      cases h
      show xi_oin b pc (sy_L ρ L) (.ref a :: r.map (sy_v ρ)) (w.map (sy_e ρ)) = _
      unfold xi_oin
      dsimp only
      rw [if_pos ⟨hc.1, by rw [sy_cats]; exact hc.2⟩]
      rfl
    · cases h
  · cases h
theorem sy_gst_ok {b : Bool} (h : sy_gst b pc L st w = some B) : xi_gst b pc (sy_L ρ L) (st.map (sy_v ρ)) (w.map (sy_e ρ)) = some (sy_s ρ B) := by
  unfold sy_gst at h
  split at h
  · next hb => cases h; unfold xi_gst; rw [if_pos hb]; rfl
  · cases h
end SY
