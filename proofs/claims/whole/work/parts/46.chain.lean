/-! A world of fixed shape, and steps to go along a method's blocks. -/
-- int arrays, boolean arrays, int fields, the out array, what was thrown
abbrev xs_T : Type := (Nat → List Int32) × (Nat → List Int32) × (Nat → Nat → Int32) × List Int64 × List xi_E
def sI (s : xs_T) (k : Nat) (f : List Int32) : xs_T := (fun j => if j = k then f else s.1 j, s.2)
def sB (s : xs_T) (k : Nat) (f : List Int32) : xs_T := (s.1, fun j => if j = k then f else s.2.1 j, s.2.2)
def sF (s : xs_T) (k i : Nat) (x : Int32) : xs_T := (s.1, s.2.1, fun a b => if a = k ∧ b = i then x else s.2.2.1 a b, s.2.2.2)
def ww (s : xs_T) : xi_W := [.inr (0, [.ref 3, .ref 14, .ref 22, .ref 31]), .inr (1, [.ref 4, .ref 5, .ref 6, .ref 7, .ref 8, .ref 9, .int (s.2.2.1 3 6), .ref 10, .ref 11, .ref 12, .ref 13, .int (s.2.2.1 3 11)]), .inl (0, .inl (s.1 4)), .inl (0, .inl (s.1 5)), .inl (0, .inl (s.1 6)), .inl (0, .inl (s.1 7)), .inl (0, .inl (s.1 8)), .inl (0, .inl (s.1 9)), .inl (0, .inl (s.1 10)), .inl (0, .inl (s.1 11)), .inl (0, .inl (s.1 12)), .inl (0, .inl (s.1 13)), .inr (2, [.int (s.2.2.1 14 0), .int (s.2.2.1 14 1), .int (s.2.2.1 14 2), .int (s.2.2.1 14 3), .ref 15, .ref 16, .ref 17, .ref 18, .ref 19, .ref 20, .ref 21]), .inl (0, .inl (s.1 15)), .inl (0, .inl (s.1 16)), .inl (0, .inl (s.1 17)), .inl (0, .inl (s.1 18)), .inl (0, .inl (s.1 19)), .inl (0, .inl (s.1 20)), .inl (0, .inl (s.1 21)), .inr (3, [.ref 3, .ref 14, .ref 23, .ref 24, .ref 25, .ref 26, .int (s.2.2.1 22 6), .ref 27, .int (s.2.2.1 22 8), .ref 28, .int (s.2.2.1 22 10), .ref 29, .ref 30]), .inl (0, .inl (s.1 23)), .inl (0, .inl (s.1 24)), .inl (0, .inl (s.1 25)), .inl (0, .inl (s.1 26)), .inl (0, .inl (s.1 27)), .inl (0, .inl (s.1 28)), .inl (0, .inl (s.1 29)), .inl (0, .inl (s.1 30)), .inr (4, [.ref 3, .ref 14, .ref 32, .ref 39, .int (s.2.2.1 31 4), .int (s.2.2.1 31 5), .int (s.2.2.1 31 6), .int (s.2.2.1 31 7), .int (s.2.2.1 31 8), .int (s.2.2.1 31 9), .int (s.2.2.1 31 10), .int (s.2.2.1 31 11), .int (s.2.2.1 31 12), .ref 44, .int (s.2.2.1 31 14), .int (s.2.2.1 31 15), .int (s.2.2.1 31 16), .int (s.2.2.1 31 17)]), .inr (5, [.ref 33, .ref 34, .ref 35, .ref 36, .int (s.2.2.1 32 4), .ref 37, .int (s.2.2.1 32 6), .ref 38, .int (s.2.2.1 32 8)]), .inl (0, .inl (s.1 33)), .inl (0, .inl (s.1 34)), .inl (0, .inl (s.1 35)), .inl (0, .inl (s.1 36)), .inl (0, .inl (s.1 37)), .inl (0, .inl (s.1 38)), .inr (6, [.ref 40, .ref 41, .ref 42, .ref 43, .int (s.2.2.1 39 4)]), .inl (0, .inl (s.1 40)), .inl (0, .inl (s.1 41)), .inl (0, .inl (s.1 42)), .inl (0, .inl (s.1 43)), .inl (0, .inl (s.1 44)), .inr (7, [.int (s.2.2.1 45 0), .ref 46, .ref 47, .int (s.2.2.1 45 3), .ref 48, .ref 49, .ref 50, .ref 51, .int (s.2.2.1 45 8), .ref 52, .ref 53, .ref 54, .ref 55, .ref 56, .ref 57, .int (s.2.2.1 45 15), .int (s.2.2.1 45 16), .ref 58, .ref 59, .ref 60, .ref 61, .ref 62, .ref 63, .ref 64, .ref 65, .ref 66, .int (s.2.2.1 45 26), .int (s.2.2.1 45 27), .ref 67, .ref 68, .int (s.2.2.1 45 30), .ref 69, .ref 70, .int (s.2.2.1 45 33), .ref 71, .ref 72, .int (s.2.2.1 45 36), .int (s.2.2.1 45 37), .int (s.2.2.1 45 38), .int (s.2.2.1 45 39), .int (s.2.2.1 45 40), .int (s.2.2.1 45 41), .int (s.2.2.1 45 42), .int (s.2.2.1 45 43), .int (s.2.2.1 45 44), .ref 73, .int (s.2.2.1 45 46), .int (s.2.2.1 45 47), .int (s.2.2.1 45 48), .ref 74, .ref 75, .ref 76, .ref 77, .ref 78, .int (s.2.2.1 45 54), .ref 79, .int (s.2.2.1 45 56), .int (s.2.2.1 45 57), .int (s.2.2.1 45 58), .ref 80, .ref 81, .ref 82, .ref 83, .int (s.2.2.1 45 63), .int (s.2.2.1 45 64)]), .inl (0, .inl (s.1 46)), .inl (0, .inl (s.1 47)), .inl (0, .inl (s.1 48)), .inl (0, .inl (s.1 49)), .inl (0, .inl (s.1 50)), .inl (0, .inl (s.1 51)), .inl (0, .inl (s.1 52)), .inl (0, .inl (s.1 53)), .inl (0, .inl (s.1 54)), .inl (0, .inl (s.1 55)), .inl (0, .inl (s.1 56)), .inl (0, .inl (s.1 57)), .inl (0, .inl (s.1 58)), .inl (0, .inl (s.1 59)), .inl (0, .inl (s.1 60)), .inl (0, .inl (s.1 61)), .inl (0, .inl (s.1 62)), .inl (0, .inl (s.1 63)), .inl (0, .inl (s.1 64)), .inl (0, .inl (s.1 65)), .inl (0, .inl (s.1 66)), .inl (0, .inl (s.1 67)), .inl (0, .inl (s.1 68)), .inl (0, .inl (s.1 69)), .inl (0, .inl (s.1 70)), .inl (0, .inl (s.1 71)), .inl (0, .inl (s.1 72)), .inl (0, .inl (s.1 73)), .inl (1, .inl (s.2.1 74)), .inl (0, .inl (s.1 75)), .inl (0, .inl (s.1 76)), .inl (0, .inl (s.1 77)), .inl (1, .inl (s.2.1 78)), .inl (0, .inl (s.1 79)), .inl (0, .inl (s.1 80)), .inl (0, .inl (s.1 81)), .inl (0, .inl (s.1 82)), .inl (0, .inl (s.1 83)), .inl (2, .inr s.2.2.2.1)] ++ s.2.2.2.2
def xi_mask : xi_L → List Bool → xi_L
  | [], _ => []
  | o :: L, true :: m => o :: xi_mask L m
  | _ :: L, false :: m => none :: xi_mask L m
  | _ :: L, [] => none :: xi_mask L []
theorem xi_mask_len : ∀ (L : xi_L) (m : List Bool), (xi_mask L m).length = L.length
  | [], _ => rfl
  | o :: L, true :: m => by show (xi_mask L m).length + 1 = _; rw [xi_mask_len L m]; rfl
  | o :: L, false :: m => by show (xi_mask L m).length + 1 = _; rw [xi_mask_len L m]; rfl
  | o :: L, [] => by show (xi_mask L []).length + 1 = _; rw [xi_mask_len L []]; rfl
theorem xi_mask_at : ∀ {L : xi_L} {m : List Bool} {k : Nat} {v : Value}, (xi_mask L m)[k]? = some (some v) → L[k]? = some (some v)
  | [], _, _, _, h => by cases h
  | o :: L, true :: m, 0, v, h => h
  | o :: L, false :: m, 0, v, h => by cases h
  | o :: L, [], 0, v, h => by cases h
  | o :: L, true :: m, k + 1, v, h => by
    rw [List.getElem?_cons_succ]
    exact xi_mask_at (L := L) (m := m) (by simpa [xi_mask] using h)
  | o :: L, false :: m, k + 1, v, h => by
    rw [List.getElem?_cons_succ]
    exact xi_mask_at (L := L) (m := m) (by simpa [xi_mask] using h)
  | o :: L, [], k + 1, v, h => by
    rw [List.getElem?_cons_succ]
    exact xi_mask_at (L := L) (m := []) (by simpa [xi_mask] using h)
theorem gx_fg {Y : xi_Y} {d n pc : Nat} {L : xi_L} {st : List Value} {w : xi_W} {E : xi_S → Prop} (m : List Bool) (h : ∃ C, xi_To Y d n (pc, xi_mask L m, st, w) C ∧ E C) : ∃ C, xi_To Y d n (pc, L, st, w) C ∧ E C := by
  obtain ⟨C, ⟨h1, h2, h3⟩, hE⟩ := h
  refine ⟨C, ⟨h1, h2, fun p l e R s m' args below meth c Q hF H locs cells slots cells' slots' ls hH hS hl => ?_⟩, hE⟩
  exact h3 p l e R s m' args below meth c Q hF H locs cells slots cells' slots' ls hH hS ⟨hl.1.trans (xi_mask_len L m).symm, hl.2.1, fun k v hk => hl.2.2 k v (xi_mask_at hk)⟩
theorem gx_step {Y : xi_Y} {d n : Nat} {A B : xi_S} {E : xi_S → Prop} (t : xi_To Y d n A B) (h : ∃ C, xi_To Y d n B C ∧ E C) : ∃ C, xi_To Y d n A C ∧ E C := by
  obtain ⟨C, h1, h2⟩ := h
  exact ⟨C, t.trans h1, h2⟩
section GX
variable {Y : xi_Y} {d n : Nat} {M : xi_M} {E : xi_S → Prop}
theorem gx_dec (hM : xi_ml[n]? = some M) {pc len : Nat} {i : Instr} (hc : xi_at xt_it n pc = some i) : ∃ len, decode M.2.1 pc = .ok (i, len) ∧ (xi_sw i = true ∨ xi_len i = len) := by
  unfold xi_at at hc
  split at hc
  · next i3 len hi3 =>
    split at hc
    · next hlen => cases hc; exact ⟨len, xt_hit n M pc _ len hM hi3, hlen⟩
    · cases hc
  · cases hc
-- a step that a computation shows
theorem gx_s (hM : xi_ml[n]? = some M) (hZ : Y.2.2.2.2.2.1 = xs_Z) {i : Instr} {A B : xi_S} (hc : xi_at xt_it n A.1 = some i) (h : xi_stp xs_Z Y.2.2.2.2.2.2.1 M i A = some B) (k : ∃ C, xi_To Y d n B C ∧ E C) : ∃ C, xi_To Y d n A C ∧ E C := by
  obtain ⟨len, hd, hlen⟩ := gx_dec (len := 0) hM hc
  exact gx_step (xi_stp_ok hM hd hlen (by rw [hZ]; exact h)) k
theorem gx_iald (hM : xi_ml[n]? = some M) (hZ : Y.2.2.2.2.2.1 = xs_Z) {pc : Nat} {L : xi_L} {r : List Value} {w : xi_W} {j : Int32} {a : Nat} {f : List Int32} (hc : xi_at xt_it n pc = some .iaload) (hf : xi_ia xs_Z Y.2.2.2.2.2.2.1 w a = some f) (hin : ¬ (j < 0 ∨ f.length ≤ j.toNatClampNeg)) (k : ∃ C, xi_To Y d n (pc + 1, L, .int (f.getD j.toNatClampNeg 0) :: r, w) C ∧ E C) : ∃ C, xi_To Y d n (pc, L, .int j :: .ref a :: r, w) C ∧ E C := by
  refine gx_s hM hZ (A := (pc, L, .int j :: .ref a :: r, w)) hc ?_ k
  show xi_iald xs_Z Y.2.2.2.2.2.2.1 pc L (.int j :: .ref a :: r) w = _
  unfold xi_iald
  dsimp only
  rw [hf]
  dsimp only
  rw [if_neg hin]
theorem gx_zald (hM : xi_ml[n]? = some M) (hZ : Y.2.2.2.2.2.1 = xs_Z) {pc : Nat} {L : xi_L} {r : List Value} {w : xi_W} {j : Int32} {a : Nat} {f : List Int32} (hc : xi_at xt_it n pc = some .baload) (hf : xi_cell w a = some (.inl (1, .inl f))) (hin : ¬ (j < 0 ∨ f.length ≤ j.toNatClampNeg)) (k : ∃ C, xi_To Y d n (pc + 1, L, .int (f.getD j.toNatClampNeg 0) :: r, w) C ∧ E C) : ∃ C, xi_To Y d n (pc, L, .int j :: .ref a :: r, w) C ∧ E C := by
  refine gx_s hM hZ (A := (pc, L, .int j :: .ref a :: r, w)) hc ?_ k
  show xi_zald pc L (.int j :: .ref a :: r) w = _
  unfold xi_zald
  dsimp only
  rw [hf]
  show (if j < 0 ∨ f.length ≤ j.toNatClampNeg then none else _) = _
  rw [if_neg hin]
theorem gx_iast (hM : xi_ml[n]? = some M) (hZ : Y.2.2.2.2.2.1 = xs_Z) {pc : Nat} {L : xi_L} {r : List Value} {w w' : xi_W} {x j : Int32} {a : Nat} {f : List Int32} (hc : xi_at xt_it n pc = some .iastore) (hf : xi_cell w a = some (.inl (0, .inl f))) (hin : ¬ (j < 0 ∨ f.length ≤ j.toNatClampNeg)) (hw : xi_put w a (.inl (0, .inl (f.set j.toNatClampNeg x))) = w') (k : ∃ C, xi_To Y d n (pc + 1, L, r, w') C ∧ E C) : ∃ C, xi_To Y d n (pc, L, .int x :: .int j :: .ref a :: r, w) C ∧ E C := by
  subst hw
  refine gx_s hM hZ (A := (pc, L, .int x :: .int j :: .ref a :: r, w)) hc ?_ k
  show xi_iast pc L (.int x :: .int j :: .ref a :: r) w = _
  unfold xi_iast
  dsimp only
  rw [hf]
  show (if j < 0 ∨ f.length ≤ j.toNatClampNeg then none else _) = _
  rw [if_neg hin]
theorem gx_zast (hM : xi_ml[n]? = some M) (hZ : Y.2.2.2.2.2.1 = xs_Z) {pc : Nat} {L : xi_L} {r : List Value} {w w' : xi_W} {x j : Int32} {a : Nat} {f : List Int32} (hc : xi_at xt_it n pc = some .bastore) (hf : xi_cell w a = some (.inl (1, .inl f))) (hin : ¬ (j < 0 ∨ f.length ≤ j.toNatClampNeg)) (hw : xi_put w a (.inl (1, .inl (f.set j.toNatClampNeg (vp_nar .boolean x)))) = w') (k : ∃ C, xi_To Y d n (pc + 1, L, r, w') C ∧ E C) : ∃ C, xi_To Y d n (pc, L, .int x :: .int j :: .ref a :: r, w) C ∧ E C := by
  subst hw
  refine gx_s hM hZ (A := (pc, L, .int x :: .int j :: .ref a :: r, w)) hc ?_ k
  show xi_zast pc L (.int x :: .int j :: .ref a :: r) w = _
  unfold xi_zast
  dsimp only
  rw [hf]
  show (if j < 0 ∨ f.length ≤ j.toNatClampNeg then none else _) = _
  rw [if_neg hin]
-- a field is written
theorem gx_put (hM : xi_ml[n]? = some M) (hZ : Y.2.2.2.2.2.1 = xs_Z) {pc x ci kf : Nat} {L : xi_L} {r : List Value} {w w' : xi_W} {v : Value} {a : Nat} {fs : List Value} (hc : xi_at xt_it n pc = some (.putfield x)) (hq : xi_fd M x = some (ci, kf)) (hw : xi_cell w a = some (.inr (ci, fs))) (hl : kf < fs.length) (hok : xi_okf M (some (ci, kf)) = true) (hfok : xi_fok (xi_tt ci kf) v = true) (hw' : xi_put w a (.inr (ci, fs.set kf v)) = w') (k : ∃ C, xi_To Y d n (pc + 3, L, r, w') C ∧ E C) : ∃ C, xi_To Y d n (pc, L, v :: .ref a :: r, w) C ∧ E C := by
  subst hw'
  refine gx_s hM hZ (A := (pc, L, v :: .ref a :: r, w)) hc ?_ k
  show xi_set (xi_fd M x) (xi_fty (xi_fd M x)) (xi_okf M (xi_fd M x)) pc L (v :: .ref a :: r) w = _
  rw [hq]
  unfold xi_set
  dsimp only
  rw [hw]
  dsimp only
  rw [if_pos ⟨rfl, hl, hok, hfok⟩]
theorem gx_if1 (hM : xi_ml[n]? = some M) (hZ : Y.2.2.2.2.2.1 = xs_Z) {pc tg : Nat} {L : xi_L} {r : List Value} {w : xi_W} {x : Int32} {i : Instr} {t : Int32 → Bool} (b : Bool) (hc : xi_at xt_it n pc = some i) (hs : xi_stp xs_Z Y.2.2.2.2.2.2.1 M i (pc, L, .int x :: r, w) = some (if t x = true then tg else pc + 3, L, r, w)) (hb : t x = b) (k : ∃ C, xi_To Y d n (if b = true then tg else pc + 3, L, r, w) C ∧ E C) : ∃ C, xi_To Y d n (pc, L, .int x :: r, w) C ∧ E C := by
  subst hb
  exact gx_s hM hZ (A := (pc, L, .int x :: r, w)) hc hs k
theorem gx_if2 (hM : xi_ml[n]? = some M) (hZ : Y.2.2.2.2.2.1 = xs_Z) {pc tg : Nat} {L : xi_L} {r : List Value} {w : xi_W} {x y : Int32} {i : Instr} {t : Int32 → Int32 → Bool} (b : Bool) (hc : xi_at xt_it n pc = some i) (hs : xi_stp xs_Z Y.2.2.2.2.2.2.1 M i (pc, L, .int y :: .int x :: r, w) = some (if t x y = true then tg else pc + 3, L, r, w)) (hb : t x y = b) (k : ∃ C, xi_To Y d n (if b = true then tg else pc + 3, L, r, w) C ∧ E C) : ∃ C, xi_To Y d n (pc, L, .int y :: .int x :: r, w) C ∧ E C := by
  subst hb
  exact gx_s hM hZ (A := (pc, L, .int y :: .int x :: r, w)) hc hs k
theorem gx_call (hM : xi_ml[n]? = some M) {j : Nat} {Mj : xi_M} {i : Instr} {A T : xi_S} {as r : List Value} {o : Option Value} {w' : xi_W} (hc : xi_at xt_it n A.1 = some i) (hi : xi_inv M i A = some (j, Mj, as, r)) (t : xi_To Y d j (0, xi_ent Mj as, [], A.2.2.2) T) (he : xi_end xt_it j Mj T = some (o, w')) (k : ∃ C, xi_To Y (d + 1) n (A.1 + 3, A.2.1, o.toList ++ r, w') C ∧ E C) : ∃ C, xi_To Y (d + 1) n A C ∧ E C := by
  obtain ⟨len, hd, hlen⟩ := gx_dec (len := 0) hM hc
  obtain ⟨x, z, hk, hl, hj, hL, hst, hal, ham, hcr, hca, hrc⟩ := xi_inv_spec hi
  exact gx_step (xi_call hM hd hlen hi (xi_C.of xt_hit hj t he hca ham)) k
end GX
