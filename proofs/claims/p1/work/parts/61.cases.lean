/-! One call on the fresh objects, each kind: every way it goes. -/
def sy_slots (w : sy_W) : Nat := (w.map (fun x => match x with
  | .inl q => q.2.length
  | .inr q => q.2.length)).sum
def p1_good (A : sy_S) : Bool := (match xt_ia 0 A.1 with
  | some .ireturn => true
  | _ => false) && (decide (A.2.2.1 = [.int 1]) && (decide (A.2.2.2.length ≤ 84) && decide (sy_slots A.2.2.2 ≤ 14066)))
def p1_b (k : Int) : sy_B := p1_bx ++ [(k, k)]
def p1_bq (q r : Int × Int) (v : Int) : sy_B := [(-2147483648, 2147483647), q, r, (-2147483648, 2147483647), (-2147483648, 2147483647), (-2147483648, 2147483647), (v, v)]
def p1_bz (q1 q2 q3 q4 q5 : Int × Int) (v : Int) : sy_B := [(-2147483648, 2147483647), q1, q2, q3, q4, q5, (v, v)]
def p1_A2 : sy_S := (40, p1_L, [.retAddr 6], p1_w)
def p1_A6 : sy_S := (392, p1_L, [.ref 84, .retAddr 2, .retAddr 1, .ref 2], p1_w)
def p1_A7 : sy_S := (395, p1_L, [.int 1], p1_w ++ [.inr (8, List.replicate 6 .null)])
theorem p1_c0 : (sy_go xt_mt xt_ia xs_Z (p1_S 6) 3000 9 0 (p1_b 0) p1_A2).all (fun T => p1_good T.2) = true := by decide +kernel
theorem p1_c3 : (sy_go xt_mt xt_ia xs_Z (p1_S 6) 3000 9 0 (p1_b 3) p1_A2).all (fun T => p1_good T.2) = true := by decide +kernel
theorem p1_c5 : (sy_go xt_mt xt_ia xs_Z (p1_S 6) 3000 9 0 (p1_b 5) p1_A2).all (fun T => p1_good T.2) = true := by decide +kernel
theorem p1_c6 : (sy_go xt_mt xt_ia xs_Z (p1_S 6) 3000 9 0 (p1_b 6) p1_A2).all (fun T => sy_same T.2 p1_A6) = true := by decide +kernel
theorem p1_c6b : (sy_go xt_mt xt_ia xs_Z (p1_S 6) 3000 9 0 (p1_b 6) p1_A7).all (fun T => p1_good T.2) = true := by decide +kernel
theorem p1_c7 : (sy_go xt_mt xt_ia xs_Z (p1_S 6) 3000 9 0 (p1_b 7) p1_A2).all (fun T => p1_good T.2) = true := by decide +kernel
theorem p1_c8 : (sy_go xt_mt xt_ia xs_Z (p1_S 6) 3000 9 0 (p1_b 8) p1_A2).all (fun T => p1_good T.2) = true := by decide +kernel
