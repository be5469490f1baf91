/-! One call on the fresh objects, each kind: every way it goes. -/
def sy_slots (w : sy_W) : Nat := (w.map (fun x => match x with
  | .inl q => q.2.length
  | .inr q => q.2.length)).sum
def p1_good (A : sy_S) : Bool := (match xi_at xi_it 0 A.1 with
  | some .ireturn => true
  | _ => false) && (decide (A.2.2.1 = [.int 1]) && (decide (A.2.2.2.length ≤ 84) && decide (sy_slots A.2.2.2 ≤ 14066)))
def p1_A6 : sy_S := (392, p1_L, [.ref 84, .retAddr 2, .retAddr 1, .ref 2], p1_w)
def p1_A7 : sy_S := (395, p1_L, [.int 1], p1_w ++ [.inr (8, List.replicate 6 .null)])
theorem p1_c0 : (sy_go xi_it xs_Z (p1_S 6) 3000 9 0 p1_bx (120, p1_L, [], p1_w)).all (fun T => p1_good T.2) = true := by decide +kernel
theorem p1_c1 : (sy_go xi_it xs_Z (p1_S 6) 3000 9 0 p1_bx (169, p1_L, [], p1_w)).all (fun T => p1_good T.2) = true := by decide +kernel
theorem p1_c2 : (sy_go xi_it xs_Z (p1_S 6) 3000 9 0 p1_bx (242, p1_L, [], p1_w)).all (fun T => p1_good T.2) = true := by decide +kernel
theorem p1_c3 : (sy_go xi_it xs_Z (p1_S 6) 3000 9 0 p1_bx (303, p1_L, [], p1_w)).all (fun T => p1_good T.2) = true := by decide +kernel
theorem p1_c4 : (sy_go xi_it xs_Z (p1_S 6) 3000 9 0 p1_bx (340, p1_L, [], p1_w)).all (fun T => p1_good T.2) = true := by decide +kernel
theorem p1_c5 : (sy_go xi_it xs_Z (p1_S 6) 3000 9 0 p1_bx (353, p1_L, [], p1_w)).all (fun T => p1_good T.2) = true := by decide +kernel
theorem p1_c6 : (sy_go xi_it xs_Z (p1_S 6) 3000 9 0 p1_bx (378, p1_L, [], p1_w)).all (fun T => sy_same T.2 p1_A6) = true := by decide +kernel
theorem p1_c7x : (sy_go xi_it xs_Z (p1_S 6) 3000 9 0 p1_bx p1_A7).all (fun T => p1_good T.2) = true := by decide +kernel
theorem p1_c7 : (sy_go xi_it xs_Z (p1_S 6) 3000 9 0 p1_bx (446, p1_L, [], p1_w)).all (fun T => p1_good T.2) = true := by decide +kernel
theorem p1_c8 : (sy_go xi_it xs_Z (p1_S 6) 3000 9 0 p1_bx (471, p1_L, [], p1_w)).all (fun T => p1_good T.2) = true := by decide +kernel
theorem p1_c9 : (sy_go xi_it xs_Z (p1_S 6) 3000 9 0 p1_bx (508, p1_L, [], p1_w)).all (fun T => p1_good T.2) = true := by decide +kernel
theorem p1_c10 : (sy_go xi_it xs_Z (p1_S 6) 3000 9 0 p1_bx (533, p1_L, [], p1_w)).all (fun T => p1_good T.2) = true := by decide +kernel
theorem p1_c11 : (sy_go xi_it xs_Z (p1_S 6) 3000 9 0 p1_bx (558, p1_L, [], p1_w)).all (fun T => p1_good T.2) = true := by decide +kernel
theorem p1_c12 : (sy_go xi_it xs_Z (p1_S 6) 3000 9 0 p1_bx (619, p1_L, [], p1_w)).all (fun T => p1_good T.2) = true := by decide +kernel
theorem p1_c13 : (sy_go xi_it xs_Z (p1_S 6) 3000 9 0 p1_bx (644, p1_L, [], p1_w)).all (fun T => p1_good T.2) = true := by decide +kernel
theorem p1_c14 : (sy_go xi_it xs_Z (p1_S 6) 3000 9 0 p1_bx (669, p1_L, [], p1_w)).all (fun T => p1_good T.2) = true := by decide +kernel
theorem p1_c15 : (sy_go xi_it xs_Z (p1_S 6) 3000 9 0 p1_bx (706, p1_L, [], p1_w)).all (fun T => p1_good T.2) = true := by decide +kernel
