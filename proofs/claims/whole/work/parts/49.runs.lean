/-! Some steps at once; a state by its own name. -/
def xi_runs (S : List Int32) (n : Nat) (M : xi_M) : Nat → xi_S → Option xi_S
  | 0, A => some A
  | k + 1, A => match xi_at xt_it n A.1 with
    | some i => match xi_stp xs_Z S M i A with
      | some B => xi_runs S n M k B
      | none => none
    | none => none
theorem gx_r {X : zX} {d n : Nat} {M : xi_M} {E : xi_S → Prop} (hM : xi_ml[n]? = some M) (hZ : X.1.2.2.2.2.2.1 = xs_Z) : ∀ (k : Nat) {A B : xi_S}, xi_runs X.1.2.2.2.2.2.2.1 n M k A = some B → (∃ C, xi_To X.1 d n B C ∧ E C) → ∃ C, xi_To X.1 d n A C ∧ E C
  | 0, A, B, h, c => by cases h; exact c
  | k + 1, A, B, h, c => by
    unfold xi_runs at h
    split at h
    · next i hi =>
      split at h
      · next B1 hB => exact gx_s hM hZ hi hB (gx_r hM hZ k h c)
      · cases h
    · cases h
theorem zb_end {n pc : Nat} {M : xi_M} {L : xi_L} {w : xi_W} {v : Int} (hc : xi_at xt_it n pc = some .ireturn) (hr : M.2.2.2.1 = some .boolean) (hv : v = 0 ∨ v = 1) : xi_end xt_it n M (pc, L, [.int (Int32.ofInt v)], w) = some (zr M v, w) := by
  unfold xi_end zr
  dsimp only
  rw [hc]
  dsimp only
  unfold xi_ret
  dsimp only
  rw [hr]
  dsimp only
  rw [if_pos (zb_fok hv)]
theorem zd_eq {x : Int} (hx : -2147483648 ≤ x ∧ x ≤ 2147483647) : decide (Int32.ofInt x = 0) = decide (x = 0) := zc_eq (y := 0) hx (by decide)
theorem zd_ne {x : Int} (hx : -2147483648 ≤ x ∧ x ≤ 2147483647) : decide (¬ Int32.ofInt x = 0) = decide (¬ x = 0) := zc_ne (y := 0) hx (by decide)
theorem zd_lt {x : Int} (hx : -2147483648 ≤ x ∧ x ≤ 2147483647) : decide (Int32.ofInt x < 0) = decide (x < 0) := zc_lt (y := 0) hx (by decide)
theorem zd_ge {x : Int} (hx : -2147483648 ≤ x ∧ x ≤ 2147483647) : decide (0 ≤ Int32.ofInt x) = decide (0 ≤ x) := zc_ge (y := 0) hx (by decide)
theorem zd_gt {x : Int} (hx : -2147483648 ≤ x ∧ x ≤ 2147483647) : decide (0 < Int32.ofInt x) = decide (0 < x) := zc_gt (y := 0) hx (by decide)
theorem zd_le {x : Int} (hx : -2147483648 ≤ x ∧ x ≤ 2147483647) : decide (Int32.ofInt x ≤ 0) = decide (x ≤ 0) := zc_le (y := 0) hx (by decide)
section GJ
variable {X : zX} {d n : Nat} {M : xi_M} {E : xi_S → Prop} {pc : Nat} {L : xi_L} {r : List Value} {s s' : zS} {x y v j : Int}
theorem gj_iast (hM : xi_ml[n]? = some M) (hZ : X.1.2.2.2.2.2.1 = xs_Z) {a len : Nat} (hc : xi_at xt_it n pc = some .iastore) (hf : xi_cell (zw X s) a = some (.inl (0, .inl (za s a len)))) (hn : len ≤ 100000) (hw : xi_put (zw X s) a (.inl (0, .inl (za (zu s a j v) a len))) = zw X (zu s a j v)) (hin : 0 ≤ j ∧ j < len) (e : s' = zu s a j v) (k : ∃ C, xi_To X.1 d n (pc + 1, L, r, zw X s') C ∧ E C) : ∃ C, xi_To X.1 d n (pc, L, .int (Int32.ofInt v) :: .int (Int32.ofInt j) :: .ref a :: r, zw X s) C ∧ E C := by
  subst e
  exact gi_iast hM hZ hc hf hn hw hin k
theorem gj_zast (hM : xi_ml[n]? = some M) (hZ : X.1.2.2.2.2.2.1 = xs_Z) {a len : Nat} (hc : xi_at xt_it n pc = some .bastore) (hf : xi_cell (zw X s) a = some (.inl (1, .inl (za s a len)))) (hn : len ≤ 100000) (hw : xi_put (zw X s) a (.inl (1, .inl (za (zu s a j v) a len))) = zw X (zu s a j v)) (hin : 0 ≤ j ∧ j < len) (hv : v = 0 ∨ v = 1) (e : s' = zu s a j v) (k : ∃ C, xi_To X.1 d n (pc + 1, L, r, zw X s') C ∧ E C) : ∃ C, xi_To X.1 d n (pc, L, .int (Int32.ofInt v) :: .int (Int32.ofInt j) :: .ref a :: r, zw X s) C ∧ E C := by
  subst e
  exact gi_zast hM hZ hc hf hn hw hin hv k
theorem gj_put (hM : xi_ml[n]? = some M) (hZ : X.1.2.2.2.2.2.1 = xs_Z) {q ci kf a : Nat} {fs : List Value} (hc : xi_at xt_it n pc = some (.putfield q)) (hq : xi_fd M q = some (ci, kf)) (hw : xi_cell (zw X s) a = some (.inr (ci, fs))) (hl : kf < fs.length) (hok : xi_okf M (some (ci, kf)) = true) (hfok : xi_fok (xi_tt ci kf) (.int (Int32.ofInt v)) = true) (hw' : xi_put (zw X s) a (.inr (ci, fs.set kf (.int (Int32.ofInt v)))) = zw X (zu s a j v)) (e : s' = zu s a j v) (k : ∃ C, xi_To X.1 d n (pc + 3, L, r, zw X s') C ∧ E C) : ∃ C, xi_To X.1 d n (pc, L, .int (Int32.ofInt v) :: .ref a :: r, zw X s) C ∧ E C := by
  subst e
  exact gx_put hM hZ hc hq hw hl hok hfok hw' k
end GJ
