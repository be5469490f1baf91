/-! More of them. -/
theorem p1_c9 : (sy_go xt_mt xt_ia xs_Z (p1_S 6) 3000 9 0 (p1_b 9) p1_A2).all (fun T => p1_good T.2) = true := by decide +kernel
theorem p1_c10 : (sy_go xt_mt xt_ia xs_Z (p1_S 6) 3000 9 0 (p1_b 10) p1_A2).all (fun T => p1_good T.2) = true := by decide +kernel
theorem p1_c12 : (sy_go xt_mt xt_ia xs_Z (p1_S 6) 3000 9 0 (p1_b 12) p1_A2).all (fun T => p1_good T.2) = true := by decide +kernel
theorem p1_c13 : (sy_go xt_mt xt_ia xs_Z (p1_S 6) 3000 9 0 (p1_b 13) p1_A2).all (fun T => p1_good T.2) = true := by decide +kernel
theorem p1_c14 : (sy_go xt_mt xt_ia xs_Z (p1_S 6) 3000 9 0 (p1_b 14) p1_A2).all (fun T => p1_good T.2) = true := by decide +kernel
theorem p1_c15 : (sy_go xt_mt xt_ia xs_Z (p1_S 6) 3000 9 0 (p1_b 15) p1_A2).all (fun T => p1_good T.2) = true := by decide +kernel
