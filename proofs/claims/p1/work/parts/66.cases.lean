/-! More of them. -/
theorem p1_c4 : (sy_go xt_mt xt_ia xs_Z (p1_S 6) 3000 9 0 (p1_b 4) p1_A2).all (fun T => p1_good T.2) = true := by decide +kernel
theorem p1_c11 : (sy_go xt_mt xt_ia xs_Z (p1_S 6) 3000 9 0 (p1_b 11) p1_A2).all (fun T => p1_good T.2) = true := by decide +kernel
