/-! From the law's entry to its loop: the fresh objects, whatever the script is. -/
-- a step that does not look at the script
def xi_stq (Z : List Int32) (M : xi_M) (i : Instr) (A : xi_S) : Option xi_S := match i with
  | .arraylength => none
  | i => xi_stp Z [] M i A
theorem xi_stq_ok {Z S : List Int32} {M : xi_M} {i : Instr} {A B : xi_S} (h : xi_stq Z M i A = some B) : xi_stp Z S M i A = some B := by
  cases i
  case arraylength => cases h
  case iaload =>
    have h : xi_iald Z [] A.1 A.2.1 A.2.2.1 A.2.2.2 = some B := h
    show xi_iald Z S A.1 A.2.1 A.2.2.1 A.2.2.2 = some B
    unfold xi_iald at h ⊢
    split at h
    · next j a r e =>
      match a, h with
      | 0, h => exact h
      | 1, h =>
        have h2 : (if j < 0 ∨ ([] : List Int32).length ≤ j.toNatClampNeg then (none : Option xi_S) else some (A.1 + 1, A.2.1, .int (([] : List Int32).getD j.toNatClampNeg 0) :: r, A.2.2.2)) = none := if_pos (Or.inr (Nat.zero_le _))
        cases h2.symm.trans h
      | k + 2, h => exact h
    · cases h
  all_goals first
    | exact h
    | (next c o => cases c <;> exact h)
-- on and on, as far as it goes without the script
def xi_gp (it : Nat → Nat → Option (Instr × Nat)) (Z : List Int32) : Nat → Nat → Nat → xi_S → xi_S
  | 0, _, _, A => A
  | f + 1, d, n, A => match xi_ml[n]? with
    | none => A
    | some M => match xi_at it n A.1 with
      | none => A
      | some i => match xi_stq Z M i A with
        | some B => xi_gp it Z f d n B
        | none => match d with
          | 0 => A
          | d' + 1 => match xi_inv M i A with
            | none => A
            | some (j, Mj, as, r) => match xi_end it j Mj (xi_gp it Z f d' j (0, xi_ent Mj as, [], A.2.2.2)) with
              | none => A
              | some (o, w') => xi_gp it Z f (d' + 1) n (A.1 + 3, A.2.1, o.toList ++ r, w')
theorem xi_gp_ok {it : Nat → Nat → Option (Instr × Nat)} (hit : ∀ n M pc i len, xi_ml[n]? = some M → it n pc = some (i, len) → decode M.2.1 pc = .ok (i, len)) (Y : xi_Y) : ∀ (f d n : Nat) (A : xi_S), xi_To Y d n A (xi_gp it Y.2.2.2.2.2.1 f d n A) := by
  intro f
  induction f with
  | zero => intro d n A; exact xi_To.rf Y d n A
  | succ f ih =>
    intro d n A
    unfold xi_gp
    split
    · exact xi_To.rf Y d n A
    · next M hM =>
      split
      · exact xi_To.rf Y d n A
      · next i hi =>
        have hd : ∃ len, decode M.2.1 A.1 = .ok (i, len) ∧ (xi_sw i = true ∨ xi_len i = len) := by
          unfold xi_at at hi
          split at hi
          · next i3 len hi3 =>
            split at hi
            · next hlen => cases hi; exact ⟨len, hit n M A.1 _ len hM hi3, hlen⟩
            · cases hi
          · cases hi
        obtain ⟨len, hd, hlen⟩ := hd
        split
        · next B hB => exact (xi_stp_ok hM hd hlen (xi_stq_ok hB)).trans (ih d n B)
        · split
          · exact xi_To.rf Y _ n A
          · next d' =>
            split
            · exact xi_To.rf Y _ n A
            · next j Mj as r hinv =>
              split
              · exact xi_To.rf Y _ n A
              · next o w' he =>
                obtain ⟨x, z, hk, hl, hj, hL, hst, hal, ham, hcr, hca, hrc⟩ := xi_inv_spec hinv
                exact (xi_call hM hd hlen hinv (xi_C.of hit hj (ih d' j _) he hca ham)).trans (ih (d' + 1) n _)
-- the world of part 47, without the run's numbers
def zv (o : List Int64) (e : List xi_E) (s : zS) : xi_W := [.inr (0, [.ref 3, .ref 14, .ref 22, .ref 31]), .inr (1, [.ref 4, .ref 5, .ref 6, .ref 7, .ref 8, .ref 9, .int (Int32.ofInt (s 3 6)), .ref 10, .ref 11, .ref 12, .ref 13, .int (Int32.ofInt (s 3 11))]), .inl (0, .inl (za s 4 8)), .inl (0, .inl (za s 5 8)), .inl (0, .inl (za s 6 6)), .inl (0, .inl (za s 7 6)), .inl (0, .inl (za s 8 18)), .inl (0, .inl (za s 9 6)), .inl (0, .inl (za s 10 150)), .inl (0, .inl (za s 11 450)), .inl (0, .inl (za s 12 150)), .inl (0, .inl (za s 13 150)), .inr (2, [.int (Int32.ofInt (s 14 0)), .int (Int32.ofInt (s 14 1)), .int (Int32.ofInt (s 14 2)), .int (Int32.ofInt (s 14 3)), .ref 15, .ref 16, .ref 17, .ref 18, .ref 19, .ref 20, .ref 21]), .inl (0, .inl (za s 15 400)), .inl (0, .inl (za s 16 400)), .inl (0, .inl (za s 17 400)), .inl (0, .inl (za s 18 400)), .inl (0, .inl (za s 19 6)), .inl (0, .inl (za s 20 8)), .inl (0, .inl (za s 21 8)), .inr (3, [.ref 3, .ref 14, .ref 23, .ref 24, .ref 25, .ref 26, .int (Int32.ofInt (s 22 6)), .ref 27, .int (Int32.ofInt (s 22 8)), .ref 28, .int (Int32.ofInt (s 22 10)), .ref 29, .ref 30]), .inl (0, .inl (za s 23 150)), .inl (0, .inl (za s 24 150)), .inl (0, .inl (za s 25 150)), .inl (0, .inl (za s 26 150)), .inl (0, .inl (za s 27 16)), .inl (0, .inl (za s 28 8)), .inl (0, .inl (za s 29 400)), .inl (0, .inl (za s 30 401)), .inr (4, [.ref 3, .ref 14, .ref 32, .ref 39, .int (Int32.ofInt (s 31 4)), .int (Int32.ofInt (s 31 5)), .int (Int32.ofInt (s 31 6)), .int (Int32.ofInt (s 31 7)), .int (Int32.ofInt (s 31 8)), .int (Int32.ofInt (s 31 9)), .int (Int32.ofInt (s 31 10)), .int (Int32.ofInt (s 31 11)), .int (Int32.ofInt (s 31 12)), .ref 44, .int (Int32.ofInt (s 31 14)), .int (Int32.ofInt (s 31 15)), .int (Int32.ofInt (s 31 16)), .int (Int32.ofInt (s 31 17))]), .inr (5, [.ref 33, .ref 34, .ref 35, .ref 36, .int (Int32.ofInt (s 32 4)), .ref 37, .int (Int32.ofInt (s 32 6)), .ref 38, .int (Int32.ofInt (s 32 8))]), .inl (0, .inl (za s 33 201)), .inl (0, .inl (za s 34 201)), .inl (0, .inl (za s 35 201)), .inl (0, .inl (za s 36 200)), .inl (0, .inl (za s 37 201)), .inl (0, .inl (za s 38 200)), .inr (6, [.ref 40, .ref 41, .ref 42, .ref 43, .int (Int32.ofInt (s 39 4))]), .inl (0, .inl (za s 40 192)), .inl (0, .inl (za s 41 384)), .inl (0, .inl (za s 42 24)), .inl (0, .inl (za s 43 24)), .inl (0, .inl (za s 44 64)), .inr (7, [.int (Int32.ofInt (s 45 0)), .ref 46, .ref 47, .int (Int32.ofInt (s 45 3)), .ref 48, .ref 49, .ref 50, .ref 51, .int (Int32.ofInt (s 45 8)), .ref 52, .ref 53, .ref 54, .ref 55, .ref 56, .ref 57, .int (Int32.ofInt (s 45 15)), .int (Int32.ofInt (s 45 16)), .ref 58, .ref 59, .ref 60, .ref 61, .ref 62, .ref 63, .ref 64, .ref 65, .ref 66, .int (Int32.ofInt (s 45 26)), .int (Int32.ofInt (s 45 27)), .ref 67, .ref 68, .int (Int32.ofInt (s 45 30)), .ref 69, .ref 70, .int (Int32.ofInt (s 45 33)), .ref 71, .ref 72, .int (Int32.ofInt (s 45 36)), .int (Int32.ofInt (s 45 37)), .int (Int32.ofInt (s 45 38)), .int (Int32.ofInt (s 45 39)), .int (Int32.ofInt (s 45 40)), .int (Int32.ofInt (s 45 41)), .int (Int32.ofInt (s 45 42)), .int (Int32.ofInt (s 45 43)), .int (Int32.ofInt (s 45 44)), .ref 73, .int (Int32.ofInt (s 45 46)), .int (Int32.ofInt (s 45 47)), .int (Int32.ofInt (s 45 48)), .ref 74, .ref 75, .ref 76, .ref 77, .ref 78, .int (Int32.ofInt (s 45 54)), .ref 79, .int (Int32.ofInt (s 45 56)), .int (Int32.ofInt (s 45 57)), .int (Int32.ofInt (s 45 58)), .ref 80, .ref 81, .ref 82, .ref 83, .int (Int32.ofInt (s 45 63)), .int (Int32.ofInt (s 45 64))]), .inl (0, .inl (za s 46 8)), .inl (0, .inl (za s 47 8)), .inl (0, .inl (za s 48 6)), .inl (0, .inl (za s 49 6)), .inl (0, .inl (za s 50 18)), .inl (0, .inl (za s 51 6)), .inl (0, .inl (za s 52 150)), .inl (0, .inl (za s 53 150)), .inl (0, .inl (za s 54 150)), .inl (0, .inl (za s 55 150)), .inl (0, .inl (za s 56 150)), .inl (0, .inl (za s 57 150)), .inl (0, .inl (za s 58 400)), .inl (0, .inl (za s 59 400)), .inl (0, .inl (za s 60 400)), .inl (0, .inl (za s 61 400)), .inl (0, .inl (za s 62 400)), .inl (0, .inl (za s 63 401)), .inl (0, .inl (za s 64 6)), .inl (0, .inl (za s 65 8)), .inl (0, .inl (za s 66 8)), .inl (0, .inl (za s 67 1200)), .inl (0, .inl (za s 68 1200)), .inl (0, .inl (za s 69 40)), .inl (0, .inl (za s 70 8)), .inl (0, .inl (za s 71 160)), .inl (0, .inl (za s 72 160)), .inl (0, .inl (za s 73 64)), .inl (1, .inl (za s 74 200)), .inl (0, .inl (za s 75 200)), .inl (0, .inl (za s 76 200)), .inl (0, .inl (za s 77 200)), .inl (1, .inl (za s 78 200)), .inl (0, .inl (za s 79 200)), .inl (0, .inl (za s 80 24)), .inl (0, .inl (za s 81 24)), .inl (0, .inl (za s 82 192)), .inl (0, .inl (za s 83 384)), .inl (2, .inr o)] ++ e
theorem zv_eq {X : zX} {s : zS} : zw X s = zv X.2.1 X.2.2 s := rfl
def z0 : zS := fun k j => if k = 36 then j + 1 else if k = 22 ∧ j = 10 then 1 else if k = 31 ∧ j = 4 then 60 else if k = 31 ∧ j = 8 then -1 else if k = 45 ∧ j = 37 then 60 else 0
def xq_E (x y : xi_E) : Bool := match x, y with
  | .inl a, .inl b => decide (a = b)
  | .inr a, .inr b => decide (a = b)
  | _, _ => false
theorem xq_E_ok {x y : xi_E} (h : xq_E x y = true) : x = y := by
  unfold xq_E at h
  split at h
  · rw [of_decide_eq_true h]
  · rw [of_decide_eq_true h]
  · cases h
def xq_W : xi_W → xi_W → Bool
  | [], [] => true
  | x :: a, y :: b => xq_E x y && xq_W a b
  | _, _ => false
theorem xq_W_ok : ∀ {a b : xi_W}, xq_W a b = true → a = b
  | [], [], _ => rfl
  | [], _ :: _, h => by cases h
  | _ :: _, [], h => by cases h
  | x :: a, y :: b, h => by
    unfold xq_W at h
    rw [Bool.and_eq_true] at h
    rw [xq_E_ok h.1, xq_W_ok h.2]
def xq_S (A B : xi_S) : Bool := decide (A.1 = B.1) && (decide (A.2.1 = B.2.1) && (decide (A.2.2.1 = B.2.2.1) && xq_W A.2.2.2 B.2.2.2))
theorem xq_S_ok {A B : xi_S} (h : xq_S A B = true) : A = B := by
  unfold xq_S at h
  simp only [Bool.and_eq_true, decide_eq_true_eq] at h
  obtain ⟨h1, h2, h3, h4⟩ := h
  obtain ⟨a1, a2, a3, a4⟩ := A
  obtain ⟨b1, b2, b3, b4⟩ := B
  dsimp only at h1 h2 h3 h4
  rw [h1, h2, h3, xq_W_ok h4]
def lA : xi_S := (0, [some (.ref 1), none, none, none, none, none, none], [], [])
def LL (i : Int) (a b : Option Value) : xi_L := [some (.ref 1), some (.ref 2), some (.ref 45), some (.ref 84), some (.int (Int32.ofInt i)), a, b]
theorem law_0 : xq_S (xi_gp xt_it xs_Z 4000 9 0 lA) (26, LL 0 none none, [.ref 1, .int 0], zv [0] [] z0) = true := by decide +kernel
theorem law_start {Y : xi_Y} (hZ : Y.2.2.2.2.2.1 = xs_Z) : xi_To Y 9 0 lA (26, LL 0 none none, [.ref 1, .int (Int32.ofInt 0)], zw (Y, [0], []) z0) := by
  have h := xi_gp_ok xt_hit Y 4000 9 0 lA
  rw [hZ, xq_S_ok law_0] at h
  exact h
