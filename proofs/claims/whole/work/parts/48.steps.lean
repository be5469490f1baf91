/-! Steps over whole numbers. -/
theorem zi_toInt {x : Int} (h : -2147483648 ≤ x ∧ x ≤ 2147483647) : (Int32.ofInt x).toInt = x := Int32.toInt_ofInt_of_le (by omega) (by omega)
theorem zi_rng (x : Int32) : -2147483648 ≤ x.toInt ∧ x.toInt ≤ 2147483647 := ⟨Int32.le_toInt x, by have := Int32.toInt_lt x; omega⟩
theorem zi_nat {x : Int} (h : 0 ≤ x ∧ x ≤ 2147483647) : (Int32.ofInt x).toNatClampNeg = x.toNat := by
  rw [Int32.toNatClampNeg, zi_toInt (by omega)]
theorem zi_lt {x y : Int} (hx : -2147483648 ≤ x ∧ x ≤ 2147483647) (hy : -2147483648 ≤ y ∧ y ≤ 2147483647) : (Int32.ofInt x < Int32.ofInt y) ↔ x < y := by
  rw [Int32.lt_iff_toInt_lt, zi_toInt hx, zi_toInt hy]
theorem zi_le {x y : Int} (hx : -2147483648 ≤ x ∧ x ≤ 2147483647) (hy : -2147483648 ≤ y ∧ y ≤ 2147483647) : (Int32.ofInt x ≤ Int32.ofInt y) ↔ x ≤ y := by
  rw [Int32.le_iff_toInt_le, zi_toInt hx, zi_toInt hy]
theorem zi_eq {x y : Int} (hx : -2147483648 ≤ x ∧ x ≤ 2147483647) (hy : -2147483648 ≤ y ∧ y ≤ 2147483647) : (Int32.ofInt x = Int32.ofInt y) ↔ x = y := by
  constructor
  · intro h; rw [← zi_toInt hx, h, zi_toInt hy]
  · intro h; rw [h]
theorem zi_0 : (0 : Int32) = Int32.ofInt 0 := rfl
theorem zc_eq {x y : Int} (hx : -2147483648 ≤ x ∧ x ≤ 2147483647) (hy : -2147483648 ≤ y ∧ y ≤ 2147483647) : decide (Int32.ofInt x = Int32.ofInt y) = decide (x = y) := decide_eq_decide.mpr (zi_eq hx hy)
theorem zc_ne {x y : Int} (hx : -2147483648 ≤ x ∧ x ≤ 2147483647) (hy : -2147483648 ≤ y ∧ y ≤ 2147483647) : decide (¬ Int32.ofInt x = Int32.ofInt y) = decide (¬ x = y) := decide_eq_decide.mpr (not_congr (zi_eq hx hy))
theorem zc_lt {x y : Int} (hx : -2147483648 ≤ x ∧ x ≤ 2147483647) (hy : -2147483648 ≤ y ∧ y ≤ 2147483647) : decide (Int32.ofInt x < Int32.ofInt y) = decide (x < y) := decide_eq_decide.mpr (zi_lt hx hy)
theorem zc_ge {x y : Int} (hx : -2147483648 ≤ x ∧ x ≤ 2147483647) (hy : -2147483648 ≤ y ∧ y ≤ 2147483647) : decide (Int32.ofInt y ≤ Int32.ofInt x) = decide (y ≤ x) := decide_eq_decide.mpr (zi_le hy hx)
theorem zc_gt {x y : Int} (hx : -2147483648 ≤ x ∧ x ≤ 2147483647) (hy : -2147483648 ≤ y ∧ y ≤ 2147483647) : decide (Int32.ofInt y < Int32.ofInt x) = decide (y < x) := decide_eq_decide.mpr (zi_lt hy hx)
theorem zc_le {x y : Int} (hx : -2147483648 ≤ x ∧ x ≤ 2147483647) (hy : -2147483648 ≤ y ∧ y ≤ 2147483647) : decide (Int32.ofInt x ≤ Int32.ofInt y) = decide (x ≤ y) := decide_eq_decide.mpr (zi_le hx hy)
-- arrays
theorem za_len {s : zS} {k len : Nat} : (za s k len).length = len := by unfold za; rw [List.length_map, List.length_range]
theorem za_get {s : zS} {k len : Nat} {j : Int} (h : 0 ≤ j ∧ j < len) : (za s k len).getD j.toNat 0 = Int32.ofInt (s k j) := by
  have h1 : j.toNat < len := by omega
  unfold za
  rw [List.getD_eq_getElem?_getD, List.getElem?_map, List.getElem?_range h1]
  show Int32.ofInt (s k (j.toNat : Int)) = _
  rw [Int.toNat_of_nonneg h.1]
theorem za_set {s : zS} {k len : Nat} {j v : Int} (h : 0 ≤ j ∧ j < len) : (za s k len).set j.toNat (Int32.ofInt v) = za (zu s k j v) k len := by
  refine List.ext_getElem? fun i => ?_
  unfold za
  rw [List.getElem?_set, List.getElem?_map, List.getElem?_map, List.length_map, List.length_range]
  by_cases hi : i < len
  · rw [List.getElem?_range hi]
    by_cases he : j.toNat = i
    · have h2 : (i : Int) = j := by omega
      rw [if_pos he, if_pos (by omega)]
      show some _ = some (Int32.ofInt (zu s k j v k (i : Int)))
      unfold zu
      rw [if_pos ⟨rfl, h2⟩]
    · have h2 : ¬ (i : Int) = j := by omega
      rw [if_neg he]
      show some _ = some (Int32.ofInt (zu s k j v k (i : Int)))
      unfold zu
      rw [if_neg (fun q => h2 q.2)]
  · rw [if_neg (by omega)]
    rw [List.getElem?_eq_none (by rw [List.length_range]; omega)]
    rfl
-- operations on bits, as they are on words
def zA (x y : Int) : Int := (Int32.ofInt x &&& Int32.ofInt y).toInt
def zO (x y : Int) : Int := (Int32.ofInt x ||| Int32.ofInt y).toInt
def zE (x y : Int) : Int := (Int32.ofInt x ^^^ Int32.ofInt y).toInt
def zL (x y : Int) : Int := (Int32.ofInt x <<< (Int32.ofInt y &&& 31)).toInt
def zR (x y : Int) : Int := (Int32.ofInt x >>> (Int32.ofInt y &&& 31)).toInt
def zU (x y : Int) : Int := (((Int32.ofInt x).toUInt32 >>> ((Int32.ofInt y).toUInt32 &&& Int32.toUInt32 31)).toInt32).toInt
def zM (x y : Int) : Int := (Int32.ofInt x - Int32.ofInt x / Int32.ofInt y * Int32.ofInt y).toInt
def zN (x : Int) : Int := (Int32.ofInt x).toInt
-- the table PARTS
def zP (j : Int) : Int := (xs_Z.getD j.toNat 0).toInt
-- what a method answers
def zr (M : xi_M) (v : Int) : Option Value := match M.2.2.2.1 with
  | none => none
  | some _ => some (.int (Int32.ofInt v))
def wW (X : zX) (n : Nat) (M : xi_M) (h : Nat) (A : xi_S) (Q : Int → zS → Prop) : Prop :=
  X.1.2.2.2.2.2.1 = xs_Z → ∀ d, h ≤ d → ∃ C, xi_To X.1 d n A C ∧ ∃ v s', xi_end xt_it n M C = some (zr M v, zw X s') ∧ Q v s'
theorem wW.mono {X : zX} {n : Nat} {M : xi_M} {h : Nat} {A : xi_S} {Q Q' : Int → zS → Prop} (w : wW X n M h A Q) (k : ∀ v s, Q v s → Q' v s) : wW X n M h A Q' := by
  intro hZ d hd
  obtain ⟨C, t, v, s', e, q⟩ := w hZ d hd
  exact ⟨C, t, v, s', e, k v s' q⟩
section GI
variable {X : zX} {d n : Nat} {M : xi_M} {E : xi_S → Prop} {pc : Nat} {L : xi_L} {r : List Value} {w : xi_W} {s : zS} {x y v j : Int}
theorem gi_add (hM : xi_ml[n]? = some M) (hZ : X.1.2.2.2.2.2.1 = xs_Z) (hc : xi_at xt_it n pc = some .iadd) (k : ∃ C, xi_To X.1 d n (pc + 1, L, .int (Int32.ofInt (x + y)) :: r, w) C ∧ E C) : ∃ C, xi_To X.1 d n (pc, L, .int (Int32.ofInt y) :: .int (Int32.ofInt x) :: r, w) C ∧ E C := by
  rw [Int32.ofInt_add] at k
  exact gx_s hM hZ (A := (pc, L, .int (Int32.ofInt y) :: .int (Int32.ofInt x) :: r, w)) hc rfl k
-- the sum as a word
theorem gi_addN (hM : xi_ml[n]? = some M) (hZ : X.1.2.2.2.2.2.1 = xs_Z) (hc : xi_at xt_it n pc = some .iadd) (k : ∃ C, xi_To X.1 d n (pc + 1, L, .int (Int32.ofInt (zN (x + y))) :: r, w) C ∧ E C) : ∃ C, xi_To X.1 d n (pc, L, .int (Int32.ofInt y) :: .int (Int32.ofInt x) :: r, w) C ∧ E C := by
  unfold zN at k
  rw [Int32.ofInt_toInt] at k
  exact gi_add hM hZ hc k
theorem gi_sub (hM : xi_ml[n]? = some M) (hZ : X.1.2.2.2.2.2.1 = xs_Z) (hc : xi_at xt_it n pc = some .isub) (k : ∃ C, xi_To X.1 d n (pc + 1, L, .int (Int32.ofInt (x - y)) :: r, w) C ∧ E C) : ∃ C, xi_To X.1 d n (pc, L, .int (Int32.ofInt y) :: .int (Int32.ofInt x) :: r, w) C ∧ E C := by
  rw [Int32.ofInt_sub] at k
  exact gx_s hM hZ (A := (pc, L, .int (Int32.ofInt y) :: .int (Int32.ofInt x) :: r, w)) hc rfl k
theorem gi_subN (hM : xi_ml[n]? = some M) (hZ : X.1.2.2.2.2.2.1 = xs_Z) (hc : xi_at xt_it n pc = some .isub) (k : ∃ C, xi_To X.1 d n (pc + 1, L, .int (Int32.ofInt (zN (x - y))) :: r, w) C ∧ E C) : ∃ C, xi_To X.1 d n (pc, L, .int (Int32.ofInt y) :: .int (Int32.ofInt x) :: r, w) C ∧ E C := by
  unfold zN at k
  rw [Int32.ofInt_toInt] at k
  exact gi_sub hM hZ hc k
theorem gi_mul (hM : xi_ml[n]? = some M) (hZ : X.1.2.2.2.2.2.1 = xs_Z) (hc : xi_at xt_it n pc = some .imul) (k : ∃ C, xi_To X.1 d n (pc + 1, L, .int (Int32.ofInt (x * y)) :: r, w) C ∧ E C) : ∃ C, xi_To X.1 d n (pc, L, .int (Int32.ofInt y) :: .int (Int32.ofInt x) :: r, w) C ∧ E C := by
  rw [Int32.ofInt_mul] at k
  exact gx_s hM hZ (A := (pc, L, .int (Int32.ofInt y) :: .int (Int32.ofInt x) :: r, w)) hc rfl k
theorem gi_and (hM : xi_ml[n]? = some M) (hZ : X.1.2.2.2.2.2.1 = xs_Z) (hc : xi_at xt_it n pc = some .iand) (k : ∃ C, xi_To X.1 d n (pc + 1, L, .int (Int32.ofInt (zA x y)) :: r, w) C ∧ E C) : ∃ C, xi_To X.1 d n (pc, L, .int (Int32.ofInt y) :: .int (Int32.ofInt x) :: r, w) C ∧ E C := by
  unfold zA at k; rw [Int32.ofInt_toInt] at k
  exact gx_s hM hZ (A := (pc, L, .int (Int32.ofInt y) :: .int (Int32.ofInt x) :: r, w)) hc rfl k
theorem gi_or (hM : xi_ml[n]? = some M) (hZ : X.1.2.2.2.2.2.1 = xs_Z) (hc : xi_at xt_it n pc = some .ior) (k : ∃ C, xi_To X.1 d n (pc + 1, L, .int (Int32.ofInt (zO x y)) :: r, w) C ∧ E C) : ∃ C, xi_To X.1 d n (pc, L, .int (Int32.ofInt y) :: .int (Int32.ofInt x) :: r, w) C ∧ E C := by
  unfold zO at k; rw [Int32.ofInt_toInt] at k
  exact gx_s hM hZ (A := (pc, L, .int (Int32.ofInt y) :: .int (Int32.ofInt x) :: r, w)) hc rfl k
theorem gi_xor (hM : xi_ml[n]? = some M) (hZ : X.1.2.2.2.2.2.1 = xs_Z) (hc : xi_at xt_it n pc = some .ixor) (k : ∃ C, xi_To X.1 d n (pc + 1, L, .int (Int32.ofInt (zE x y)) :: r, w) C ∧ E C) : ∃ C, xi_To X.1 d n (pc, L, .int (Int32.ofInt y) :: .int (Int32.ofInt x) :: r, w) C ∧ E C := by
  unfold zE at k; rw [Int32.ofInt_toInt] at k
  exact gx_s hM hZ (A := (pc, L, .int (Int32.ofInt y) :: .int (Int32.ofInt x) :: r, w)) hc rfl k
theorem gi_shl (hM : xi_ml[n]? = some M) (hZ : X.1.2.2.2.2.2.1 = xs_Z) (hc : xi_at xt_it n pc = some .ishl) (k : ∃ C, xi_To X.1 d n (pc + 1, L, .int (Int32.ofInt (zL x y)) :: r, w) C ∧ E C) : ∃ C, xi_To X.1 d n (pc, L, .int (Int32.ofInt y) :: .int (Int32.ofInt x) :: r, w) C ∧ E C := by
  unfold zL at k; rw [Int32.ofInt_toInt] at k
  exact gx_s hM hZ (A := (pc, L, .int (Int32.ofInt y) :: .int (Int32.ofInt x) :: r, w)) hc rfl k
theorem gi_shr (hM : xi_ml[n]? = some M) (hZ : X.1.2.2.2.2.2.1 = xs_Z) (hc : xi_at xt_it n pc = some .ishr) (k : ∃ C, xi_To X.1 d n (pc + 1, L, .int (Int32.ofInt (zR x y)) :: r, w) C ∧ E C) : ∃ C, xi_To X.1 d n (pc, L, .int (Int32.ofInt y) :: .int (Int32.ofInt x) :: r, w) C ∧ E C := by
  unfold zR at k; rw [Int32.ofInt_toInt] at k
  exact gx_s hM hZ (A := (pc, L, .int (Int32.ofInt y) :: .int (Int32.ofInt x) :: r, w)) hc rfl k
theorem gi_ushr (hM : xi_ml[n]? = some M) (hZ : X.1.2.2.2.2.2.1 = xs_Z) (hc : xi_at xt_it n pc = some .iushr) (k : ∃ C, xi_To X.1 d n (pc + 1, L, .int (Int32.ofInt (zU x y)) :: r, w) C ∧ E C) : ∃ C, xi_To X.1 d n (pc, L, .int (Int32.ofInt y) :: .int (Int32.ofInt x) :: r, w) C ∧ E C := by
  unfold zU at k; rw [Int32.ofInt_toInt] at k
  exact gx_s hM hZ (A := (pc, L, .int (Int32.ofInt y) :: .int (Int32.ofInt x) :: r, w)) hc rfl k
theorem gi_rem (hM : xi_ml[n]? = some M) (hZ : X.1.2.2.2.2.2.1 = xs_Z) (hc : xi_at xt_it n pc = some .irem) (hy : -2147483648 ≤ y ∧ y ≤ 2147483647) (h0 : ¬ y = 0) (k : ∃ C, xi_To X.1 d n (pc + 1, L, .int (Int32.ofInt (zM x y)) :: r, w) C ∧ E C) : ∃ C, xi_To X.1 d n (pc, L, .int (Int32.ofInt y) :: .int (Int32.ofInt x) :: r, w) C ∧ E C := by
  unfold zM at k; rw [Int32.ofInt_toInt] at k
  have h1 : ¬ Int32.ofInt y = 0 := by rw [zi_0, zi_eq hy (by decide)]; exact h0
  refine gx_s hM hZ (A := (pc, L, .int (Int32.ofInt y) :: .int (Int32.ofInt x) :: r, w)) hc ?_ k
  show (if Int32.ofInt y = 0 then none else _) = _
  rw [if_neg h1]
theorem gi_bip (hM : xi_ml[n]? = some M) (hZ : X.1.2.2.2.2.2.1 = xs_Z) {m : Int} (hc : xi_at xt_it n pc = some (.bipush m)) (hv : (Int8.ofInt m).toInt32 = Int32.ofInt m) (k : ∃ C, xi_To X.1 d n (pc + 2, L, .int (Int32.ofInt m) :: r, w) C ∧ E C) : ∃ C, xi_To X.1 d n (pc, L, r, w) C ∧ E C := by
  rw [← hv] at k
  exact gx_s hM hZ (A := (pc, L, r, w)) hc rfl k
theorem gi_sip (hM : xi_ml[n]? = some M) (hZ : X.1.2.2.2.2.2.1 = xs_Z) {m : Int} (hc : xi_at xt_it n pc = some (.sipush m)) (hv : (Int16.ofInt m).toInt32 = Int32.ofInt m) (k : ∃ C, xi_To X.1 d n (pc + 3, L, .int (Int32.ofInt m) :: r, w) C ∧ E C) : ∃ C, xi_To X.1 d n (pc, L, r, w) C ∧ E C := by
  rw [← hv] at k
  exact gx_s hM hZ (A := (pc, L, r, w)) hc rfl k
theorem gi_inc (hM : xi_ml[n]? = some M) (hZ : X.1.2.2.2.2.2.1 = xs_Z) {q : Nat} {m : Int} (hc : xi_at xt_it n pc = some (.iinc q m)) (hl : xi_ld L q = some (.int (Int32.ofInt x))) (k : ∃ C, xi_To X.1 d n (pc + 3, L.set q (some (.int (Int32.ofInt (x + m)))), r, w) C ∧ E C) : ∃ C, xi_To X.1 d n (pc, L, r, w) C ∧ E C := by
  rw [Int32.ofInt_add] at k
  refine gx_s hM hZ (A := (pc, L, r, w)) hc ?_ k
  show xi_inc q m pc L r w = _
  unfold xi_inc
  rw [hl]
theorem gi_iald (hM : xi_ml[n]? = some M) (hZ : X.1.2.2.2.2.2.1 = xs_Z) {a len : Nat} (hc : xi_at xt_it n pc = some .iaload) (hf : xi_ia xs_Z X.1.2.2.2.2.2.2.1 w a = some (za s a len)) (hn : len ≤ 100000) (hin : 0 ≤ j ∧ j < len) (k : ∃ C, xi_To X.1 d n (pc + 1, L, .int (Int32.ofInt (s a j)) :: r, w) C ∧ E C) : ∃ C, xi_To X.1 d n (pc, L, .int (Int32.ofInt j) :: .ref a :: r, w) C ∧ E C := by
  have h1 := zi_nat (x := j) (by omega)
  refine gx_iald hM hZ hc hf ?_ ?_
  · rw [h1, za_len, zi_0, zi_lt (by omega) (by decide)]; omega
  · rw [h1, za_get hin]; exact k
theorem gi_parts (hM : xi_ml[n]? = some M) (hZ : X.1.2.2.2.2.2.1 = xs_Z) (hc : xi_at xt_it n pc = some .iaload) (hin : 0 ≤ j ∧ j < 54) (k : ∃ C, xi_To X.1 d n (pc + 1, L, .int (Int32.ofInt (zP j)) :: r, w) C ∧ E C) : ∃ C, xi_To X.1 d n (pc, L, .int (Int32.ofInt j) :: .ref 0 :: r, w) C ∧ E C := by
  have h1 := zi_nat (x := j) (by omega)
  have h2 : xs_Z.length = 54 := rfl
  refine gx_iald hM hZ hc (f := xs_Z) rfl ?_ ?_
  · rw [h1, h2, zi_0, zi_lt (by omega) (by decide)]; omega
  · rw [h1]; unfold zP at k; rw [Int32.ofInt_toInt] at k; exact k
theorem gi_zald (hM : xi_ml[n]? = some M) (hZ : X.1.2.2.2.2.2.1 = xs_Z) {a len : Nat} (hc : xi_at xt_it n pc = some .baload) (hf : xi_cell w a = some (.inl (1, .inl (za s a len)))) (hn : len ≤ 100000) (hin : 0 ≤ j ∧ j < len) (k : ∃ C, xi_To X.1 d n (pc + 1, L, .int (Int32.ofInt (s a j)) :: r, w) C ∧ E C) : ∃ C, xi_To X.1 d n (pc, L, .int (Int32.ofInt j) :: .ref a :: r, w) C ∧ E C := by
  have h1 := zi_nat (x := j) (by omega)
  refine gx_zald hM hZ hc hf ?_ ?_
  · rw [h1, za_len, zi_0, zi_lt (by omega) (by decide)]; omega
  · rw [h1, za_get hin]; exact k
theorem gi_iast (hM : xi_ml[n]? = some M) (hZ : X.1.2.2.2.2.2.1 = xs_Z) {a len : Nat} {w' : xi_W} (hc : xi_at xt_it n pc = some .iastore) (hf : xi_cell w a = some (.inl (0, .inl (za s a len)))) (hn : len ≤ 100000) (hw : xi_put w a (.inl (0, .inl (za (zu s a j v) a len))) = w') (hin : 0 ≤ j ∧ j < len) (k : ∃ C, xi_To X.1 d n (pc + 1, L, r, w') C ∧ E C) : ∃ C, xi_To X.1 d n (pc, L, .int (Int32.ofInt v) :: .int (Int32.ofInt j) :: .ref a :: r, w) C ∧ E C := by
  have h1 := zi_nat (x := j) (by omega)
  refine gx_iast hM hZ hc hf ?_ (w' := w') ?_ k
  · rw [h1, za_len, zi_0, zi_lt (by omega) (by decide)]; omega
  · rw [h1, za_set hin]; exact hw
theorem gi_zast (hM : xi_ml[n]? = some M) (hZ : X.1.2.2.2.2.2.1 = xs_Z) {a len : Nat} {w' : xi_W} (hc : xi_at xt_it n pc = some .bastore) (hf : xi_cell w a = some (.inl (1, .inl (za s a len)))) (hn : len ≤ 100000) (hw : xi_put w a (.inl (1, .inl (za (zu s a j v) a len))) = w') (hin : 0 ≤ j ∧ j < len) (hv : v = 0 ∨ v = 1) (k : ∃ C, xi_To X.1 d n (pc + 1, L, r, w') C ∧ E C) : ∃ C, xi_To X.1 d n (pc, L, .int (Int32.ofInt v) :: .int (Int32.ofInt j) :: .ref a :: r, w) C ∧ E C := by
  have h1 := zi_nat (x := j) (by omega)
  have h2 : vp_nar .boolean (Int32.ofInt v) = Int32.ofInt v := by
    rcases hv with e | e
    · subst e; rfl
    · subst e; rfl
  refine gx_zast hM hZ hc hf ?_ (w' := w') ?_ k
  · rw [h1, za_len, zi_0, zi_lt (by omega) (by decide)]; omega
  · rw [h1, h2, za_set hin]; exact hw
theorem zb_fok (hv : v = 0 ∨ v = 1) : xi_fok .boolean (.int (Int32.ofInt v)) = true := by
  rcases hv with e | e
  · subst e; rfl
  · subst e; rfl
-- branches
theorem gi_if1 (hM : xi_ml[n]? = some M) (hZ : X.1.2.2.2.2.2.1 = xs_Z) {tg : Nat} {i : Instr} (t : Int32 → Bool) {p : Prop} [Decidable p] (hc : xi_at xt_it n pc = some i) (hs : xi_stp xs_Z X.1.2.2.2.2.2.2.1 M i (pc, L, .int (Int32.ofInt x) :: r, w) = some (if t (Int32.ofInt x) = true then tg else pc + 3, L, r, w)) (ht : t (Int32.ofInt x) = decide p) (k1 : p → ∃ C, xi_To X.1 d n (tg, L, r, w) C ∧ E C) (k2 : ¬ p → ∃ C, xi_To X.1 d n (pc + 3, L, r, w) C ∧ E C) : ∃ C, xi_To X.1 d n (pc, L, .int (Int32.ofInt x) :: r, w) C ∧ E C := by
  refine gx_s hM hZ (A := (pc, L, .int (Int32.ofInt x) :: r, w)) hc hs ?_
  rw [ht]
  by_cases hp : p
  · rw [decide_eq_true hp]; exact k1 hp
  · rw [decide_eq_false hp]; exact k2 hp
theorem gi_if2 (hM : xi_ml[n]? = some M) (hZ : X.1.2.2.2.2.2.1 = xs_Z) {tg : Nat} {i : Instr} (t : Int32 → Int32 → Bool) {p : Prop} [Decidable p] (hc : xi_at xt_it n pc = some i) (hs : xi_stp xs_Z X.1.2.2.2.2.2.2.1 M i (pc, L, .int (Int32.ofInt y) :: .int (Int32.ofInt x) :: r, w) = some (if t (Int32.ofInt x) (Int32.ofInt y) = true then tg else pc + 3, L, r, w)) (ht : t (Int32.ofInt x) (Int32.ofInt y) = decide p) (k1 : p → ∃ C, xi_To X.1 d n (tg, L, r, w) C ∧ E C) (k2 : ¬ p → ∃ C, xi_To X.1 d n (pc + 3, L, r, w) C ∧ E C) : ∃ C, xi_To X.1 d n (pc, L, .int (Int32.ofInt y) :: .int (Int32.ofInt x) :: r, w) C ∧ E C := by
  refine gx_s hM hZ (A := (pc, L, .int (Int32.ofInt y) :: .int (Int32.ofInt x) :: r, w)) hc hs ?_
  rw [ht]
  by_cases hp : p
  · rw [decide_eq_true hp]; exact k1 hp
  · rw [decide_eq_false hp]; exact k2 hp
theorem gi_tab (hM : xi_ml[n]? = some M) (hZ : X.1.2.2.2.2.2.1 = xs_Z) {dd lo hi o : Int} {offs : Array Int} (hc : xi_at xt_it n pc = some (.tableswitch dd lo hi offs)) (hx : -2147483648 ≤ x ∧ x ≤ 2147483647) (h : (if x < lo ∨ hi < x then some dd else offs[(x - lo).toNat]?) = some o) (ho : 0 ≤ (pc : Int) + o) (k : ∃ C, xi_To X.1 d n (((pc : Int) + o).toNat, L, r, w) C ∧ E C) : ∃ C, xi_To X.1 d n (pc, L, .int (Int32.ofInt x) :: r, w) C ∧ E C := by
  refine gx_s hM hZ (A := (pc, L, .int (Int32.ofInt x) :: r, w)) hc ?_ k
  show xi_tab dd lo hi offs pc L (.int (Int32.ofInt x) :: r) w = _
  unfold xi_tab
  dsimp only
  rw [zi_toInt hx]
  split at h
  · next hc => rw [if_pos hc]; cases h; unfold xi_go1; rw [if_pos ho]
  · next hc => rw [if_neg hc, h]; dsimp only; unfold xi_go1; rw [if_pos ho]
theorem gi_lok (hM : xi_ml[n]? = some M) (hZ : X.1.2.2.2.2.2.1 = xs_Z) {dd o : Int} {ps : Array (Int × Int)} (hc : xi_at xt_it n pc = some (.lookupswitch dd ps)) (hs : (ps.toList.zip (ps.toList.drop 1)).all (fun (a, next) => a.1 < next.1) = true) (hx : -2147483648 ≤ x ∧ x ≤ 2147483647) (h : Op.lookupswitch.offset ps.toList dd x = o) (ho : 0 ≤ (pc : Int) + o) (k : ∃ C, xi_To X.1 d n (((pc : Int) + o).toNat, L, r, w) C ∧ E C) : ∃ C, xi_To X.1 d n (pc, L, .int (Int32.ofInt x) :: r, w) C ∧ E C := by
  refine gx_s hM hZ (A := (pc, L, .int (Int32.ofInt x) :: r, w)) hc ?_ k
  show xi_lok dd ps pc L (.int (Int32.ofInt x) :: r) w = _
  unfold xi_lok
  dsimp only
  rw [zi_toInt hx, if_pos hs, h]
  unfold xi_go1
  rw [if_pos ho]
theorem gi_call (hM : xi_ml[n]? = some M) {j : Nat} {Mj : xi_M} {i : Instr} {as r1 : List Value} {hj : Nat} {Q1 : Int → zS → Prop} (hZ : X.1.2.2.2.2.2.1 = xs_Z) (hc : xi_at xt_it n pc = some i) (hi : xi_inv M i (pc, L, r, zw X s) = some (j, Mj, as, r1)) (hd : hj + 1 ≤ d) (t : wW X j Mj hj (0, xi_ent Mj as, [], zw X s) Q1) (k : ∀ v s1, Q1 v s1 → ∃ C, xi_To X.1 d n (pc + 3, L, (zr Mj v).toList ++ r1, zw X s1) C ∧ E C) : ∃ C, xi_To X.1 d n (pc, L, r, zw X s) C ∧ E C := by
  obtain ⟨d', rfl⟩ : ∃ d', d = d' + 1 := ⟨d - 1, by omega⟩
  obtain ⟨C, tC, v, s1, e1, q⟩ := t hZ d' (by omega)
  exact gx_call hM (A := (pc, L, r, zw X s)) hc hi tC e1 (k v s1 q)
end GI
