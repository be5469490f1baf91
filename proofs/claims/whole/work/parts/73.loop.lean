/-! The law's loop, by induction; from its entry to its end. -/
section LO
variable {X : zX} {E : xi_S → Prop} {i c : Int} {a b : Option Value} {w : xi_W} {s : zS}
-- which case
theorem law_sw (hZ : okX X) (hi : 0 ≤ i) (hl : i + 6 ≤ (X.1.2.2.2.2.2.2.1.length : Int)) (hS : X.1.2.2.2.2.2.2.1.length ≤ 3072)
    (k0 : ∃ C, xi_To X.1 9 0 (120, LL i a b, [], w) C ∧ E C) (k1 : ∃ C, xi_To X.1 9 0 (169, LL i a b, [], w) C ∧ E C) (k2 : ∃ C, xi_To X.1 9 0 (242, LL i a b, [], w) C ∧ E C) (k3 : ∃ C, xi_To X.1 9 0 (303, LL i a b, [], w) C ∧ E C) (k4 : ∃ C, xi_To X.1 9 0 (340, LL i a b, [], w) C ∧ E C) (k5 : ∃ C, xi_To X.1 9 0 (353, LL i a b, [], w) C ∧ E C) (k6 : ∃ C, xi_To X.1 9 0 (378, LL i a b, [], w) C ∧ E C) (k7 : ∃ C, xi_To X.1 9 0 (446, LL i a b, [], w) C ∧ E C) (k8 : ∃ C, xi_To X.1 9 0 (471, LL i a b, [], w) C ∧ E C) (k9 : ∃ C, xi_To X.1 9 0 (508, LL i a b, [], w) C ∧ E C) (k10 : ∃ C, xi_To X.1 9 0 (533, LL i a b, [], w) C ∧ E C) (k11 : ∃ C, xi_To X.1 9 0 (558, LL i a b, [], w) C ∧ E C) (k12 : ∃ C, xi_To X.1 9 0 (619, LL i a b, [], w) C ∧ E C) (k13 : ∃ C, xi_To X.1 9 0 (644, LL i a b, [], w) C ∧ E C) (k14 : ∃ C, xi_To X.1 9 0 (669, LL i a b, [], w) C ∧ E C) (k15 : ∃ C, xi_To X.1 9 0 (706, LL i a b, [], w) C ∧ E C) : ∃ C, xi_To X.1 9 0 (33, LL i a b, [], w) C ∧ E C := by
  refine gx_r lw_M hZ 2 (B := (36, LL i a b, [.int (Int32.ofInt i), .ref 1], w)) rfl ?_
  have h1 := zi_nat (x := i) (by omega)
  refine gx_iald lw_M hZ (f := X.1.2.2.2.2.2.2.1) rfl rfl (by rw [h1, zi_0, zi_lt (by omega) (by decide)]; omega) ?_
  rw [h1, ← Int32.ofInt_toInt (X.1.2.2.2.2.2.2.1.getD i.toNat 0)]
  refine gi_bip lw_M hZ (m := 15) rfl rfl ?_
  refine gi_and lw_M hZ rfl ?_
  have hx := zA_15 (X.1.2.2.2.2.2.2.1.getD i.toNat 0).toInt
  generalize zA (X.1.2.2.2.2.2.2.1.getD i.toNat 0).toInt 15 = x at hx ⊢
  have hc : x = 0 ∨ x = 1 ∨ x = 2 ∨ x = 3 ∨ x = 4 ∨ x = 5 ∨ x = 6 ∨ x = 7 ∨ x = 8 ∨ x = 9 ∨ x = 10 ∨ x = 11 ∨ x = 12 ∨ x = 13 ∨ x = 14 ∨ x = 15 := by omega
  rcases hc with rfl | rfl | rfl | rfl | rfl | rfl | rfl | rfl | rfl | rfl | rfl | rfl | rfl | rfl | rfl | rfl
  · exact gi_tab (o := 80) lw_M hZ rfl (by decide) rfl (by decide) k0
  · exact gi_tab (o := 129) lw_M hZ rfl (by decide) rfl (by decide) k1
  · exact gi_tab (o := 202) lw_M hZ rfl (by decide) rfl (by decide) k2
  · exact gi_tab (o := 263) lw_M hZ rfl (by decide) rfl (by decide) k3
  · exact gi_tab (o := 300) lw_M hZ rfl (by decide) rfl (by decide) k4
  · exact gi_tab (o := 313) lw_M hZ rfl (by decide) rfl (by decide) k5
  · exact gi_tab (o := 338) lw_M hZ rfl (by decide) rfl (by decide) k6
  · exact gi_tab (o := 406) lw_M hZ rfl (by decide) rfl (by decide) k7
  · exact gi_tab (o := 431) lw_M hZ rfl (by decide) rfl (by decide) k8
  · exact gi_tab (o := 468) lw_M hZ rfl (by decide) rfl (by decide) k9
  · exact gi_tab (o := 493) lw_M hZ rfl (by decide) rfl (by decide) k10
  · exact gi_tab (o := 518) lw_M hZ rfl (by decide) rfl (by decide) k11
  · exact gi_tab (o := 579) lw_M hZ rfl (by decide) rfl (by decide) k12
  · exact gi_tab (o := 604) lw_M hZ rfl (by decide) rfl (by decide) k13
  · exact gi_tab (o := 629) lw_M hZ rfl (by decide) rfl (by decide) k14
  · exact gi_tab (o := 666) lw_M hZ rfl (by decide) rfl (by decide) k15
theorem RR_z0 : RR 0 z0 := by
  refine ⟨⟨by decide, by decide, fun t _ => ⟨rfl, rfl, ⟨by show (0 : Int) ≤ 0; decide, by show (0 : Int) ≤ 7; decide⟩, ⟨by show (0 : Int) ≤ 0; decide, by show (0 : Int) ≤ 7; decide⟩⟩, fun f h1 h2 => ?_, fun f k h1 h2 => ?_, fun n h1 h2 => ?_⟩, Or.inl ⟨rfl, rfl⟩, ⟨by decide, by decide, ⟨fun j h1 h2 => ?_, fun i j h1 h2 h3 h4 h5 => ?_⟩, fun p _ _ => ⟨by show (0 : Int) ≤ 0; decide, by show (0 : Int) ≤ 0; decide⟩, by decide⟩, Or.inl ⟨by decide, by decide⟩⟩
  · exact absurd h2 (by show ¬ f < 0; omega)
  · exact absurd h2 (by show ¬ f < 0; omega)
  · exact absurd h2 (by show ¬ n < 0; omega)
  · show 1 ≤ j + 1 ∧ j + 1 ≤ 200; omega
  · have h5 : i + 1 = j + 1 := h5
    omega
theorem zw_sl : xi_sl (zw X s) = 14059 + X.2.1.length + xi_sl X.2.2 := by
  unfold xi_sl zw
  simp only [List.map_append, List.sum_append, List.map_cons, List.map_nil, List.sum_cons, List.sum_nil, xi_sc, za_len, List.length_cons, List.length_nil]
  omega
theorem zw_ln : (zw X s).length = 83 + X.2.2.length := by
  unfold zw
  rw [List.length_append]
  rfl
-- an end: at the return with 1
def lwE (C : xi_S) : Prop := C.1 = 750 ∧ C.2.2.1 = [.int 1] ∧ C.2.2.2.length ≤ 1109 ∧ xi_sl C.2.2.2 ≤ 22264
theorem law_loop {Y : xi_Y} (hZ : Y.2.2.2.2.2.1 = xs_Z) (hfl : Y.2.2.2.2.2.2.2.flags = pinnedFlags ++ [noTraceFlag]) (hS : Y.2.2.2.2.2.2.1.length ≤ 3072) : ∀ (n : Nat) (c i : Int) (o : List Int64) (e : List xi_E) (a b : Option Value) (s : zS), i = 6 * c → 0 ≤ c → i ≤ (Y.2.2.2.2.2.2.1.length : Int) → (Y.2.2.2.2.2.2.1.length : Int) < i + 6 * (n : Int) → o.length = 1 → (e.length : Int) ≤ c → (xi_sl e : Int) ≤ 6 * c → RR c s →
    ∃ C, xi_To Y 9 0 (26, LL i a b, [.ref 1, .int (Int32.ofInt i)], zw (Y, o, e) s) C ∧ lwE C := by
  intro n
  induction n with
  | zero => intro c i o e a b s h1 h2 h3 h4; omega
  | succ n ih =>
    intro c i o e a b s h1 h2 h3 h4 h5 h6 h7 hR
    have hX : okX (Y, o, e) := hZ
    have hl0 := zw_ln (X := (Y, o, e)) (s := s)
    have hs0 := zw_sl (X := (Y, o, e)) (s := s)
    dsimp only at hl0 hs0
    refine law_tp (X := (Y, o, e)) hX ⟨by omega, by omega⟩ hS (fun q => ⟨rfl, rfl, ?_, ?_⟩) (fun q => ?_)
    · show (zw (Y, o, e) s).length ≤ 1109
      omega
    · show xi_sl (zw (Y, o, e) s) ≤ 22264
      omega
    · have q : i + 6 ≤ (Y.2.2.2.2.2.2.1.length : Int) := q
      have hc : 0 ≤ c ∧ c ≤ 1000 := ⟨h2, by omega⟩
      have K : ∀ (o' : List Int64) (e' : List xi_E) (a' b' : Option Value) (s1 : zS), o'.length = 1 → (e'.length : Int) ≤ c + 1 → (xi_sl e' : Int) ≤ 6 * (c + 1) → RR (c + 1) s1 → ∃ C, xi_To Y 9 0 (743, LL i a' b', [], zw (Y, o', e') s1) C ∧ lwE C := by
        intro o' e' a' b' s1 k1 k2 k3 k4
        exact law_nx (X := (Y, o', e')) hZ (ih (c + 1) (i + 6) o' e' a' b' s1 (by omega) (by omega) q (by omega) k1 k2 k3 k4)
      have K1 : ∀ s1, RR (c + 1) s1 → ∃ C, xi_To Y 9 0 (743, LL i a b, [], zw (Y, o, e) s1) C ∧ lwE C := fun s1 k => K o e a b s1 h5 (by omega) (by omega) k
      have hi : 0 ≤ i := by omega
      refine law_sw (X := (Y, o, e)) hX hi q hS (law_c0 (X := (Y, o, e)) hX hi q hS hR hc K1) (law_c1 (X := (Y, o, e)) hX hi q hS hR hc K1) (law_c2 (X := (Y, o, e)) hX hi q hS hR hc K1) (law_c3 (X := (Y, o, e)) hX hi q hS hR hc K1) (law_c4 (X := (Y, o, e)) hX hi q hS hR hc K1) (law_c5 (X := (Y, o, e)) hX hi q hS hR hc K1) ?_ (law_c7 (X := (Y, o, e)) hX hi q hS hR hc K1) (law_c8 (X := (Y, o, e)) hX hi q hS hR hc K1) (law_c9 (X := (Y, o, e)) hX hi q hS hR hc K1) (law_c10 (X := (Y, o, e)) hX hi q hS hR hc K1) (law_c11 (X := (Y, o, e)) hX hi q hS hR hc K1) (law_c12 (X := (Y, o, e)) hX hi q hS hR hc K1) (law_c13 (X := (Y, o, e)) hX hi q hS hR hc K1) (law_c14 (X := (Y, o, e)) hX hi q hS hR hc K1) (law_c15 (X := (Y, o, e)) hX hi q hS hR hc K1)
      have gx : ∀ x, xi_sl (e ++ [xe_exc x]) = xi_sl e + 6 := fun x => by rw [xi_sl_app]; rfl
      refine law_c6 (X := (Y, o, e)) hX hfl h5 hi q hS hR (fun o' e' a' b' s1 k1 k2 k3 => K o' e' a' b' s1 k1 ?_ ?_ k3)
      · rcases k2 with k2 | k2 | k2
        · rw [k2]; show (e.length : Int) ≤ _; omega
        · rw [k2]; show ((e ++ [xe_exc 8]).length : Int) ≤ _; rw [List.length_append]; show ((e.length + 1 : Nat) : Int) ≤ _; omega
        · rw [k2]; show ((e ++ [xe_exc 9]).length : Int) ≤ _; rw [List.length_append]; show ((e.length + 1 : Nat) : Int) ≤ _; omega
      · rcases k2 with k2 | k2 | k2
        · rw [k2]; show (xi_sl e : Int) ≤ _; omega
        · rw [k2]; show (xi_sl (e ++ [xe_exc 8]) : Int) ≤ _; rw [gx]; omega
        · rw [k2]; show (xi_sl (e ++ [xe_exc 9]) : Int) ≤ _; rw [gx]; omega
theorem law_all {Y : xi_Y} (hZ : Y.2.2.2.2.2.1 = xs_Z) (hfl : Y.2.2.2.2.2.2.2.flags = pinnedFlags ++ [noTraceFlag]) (hS : Y.2.2.2.2.2.2.1.length ≤ 3072) : ∃ C, xi_To Y 9 0 lA C ∧ lwE C :=
  gx_step (law_start hZ) (law_loop hZ hfl hS 3073 0 0 [0] [] none none z0 rfl (by decide) (by omega) (by omega) rfl (by decide) (by decide) RR_z0)
end LO
