/-! More of them. -/
theorem p1_c2_11 : (sy_go xt_mt xt_ia xs_Z (p1_S 6) 3000 9 0 (p1_bq (9, 9) (-2147483648, 2147483647) 2) p1_A2).all (fun T => p1_good T.2) = true := by decide +kernel
theorem p1_c2_12 : (sy_go xt_mt xt_ia xs_Z (p1_S 6) 3000 9 0 (p1_bq (10, 10) (-2147483648, 2147483647) 2) p1_A2).all (fun T => p1_good T.2) = true := by decide +kernel
theorem p1_c2_13 : (sy_go xt_mt xt_ia xs_Z (p1_S 6) 3000 9 0 (p1_bq (11, 11) (-2147483648, 2147483647) 2) p1_A2).all (fun T => p1_good T.2) = true := by decide +kernel
theorem p1_c2_14 : (sy_go xt_mt xt_ia xs_Z (p1_S 6) 3000 9 0 (p1_bq (12, 12) (-2147483648, 2147483647) 2) p1_A2).all (fun T => p1_good T.2) = true := by decide +kernel
theorem p1_c2_15 : (sy_go xt_mt xt_ia xs_Z (p1_S 6) 3000 9 0 (p1_bq (13, 13) (-2147483648, 2147483647) 2) p1_A2).all (fun T => p1_good T.2) = true := by decide +kernel
theorem p1_c2_16 : (sy_go xt_mt xt_ia xs_Z (p1_S 6) 3000 9 0 (p1_bq (14, 14) (-2147483648, 2147483647) 2) p1_A2).all (fun T => p1_good T.2) = true := by decide +kernel
theorem p1_c2_17 : (sy_go xt_mt xt_ia xs_Z (p1_S 6) 3000 9 0 (p1_bq (15, 15) (-2147483648, 2147483647) 2) p1_A2).all (fun T => p1_good T.2) = true := by decide +kernel
theorem p1_c2_18 : (sy_go xt_mt xt_ia xs_Z (p1_S 6) 3000 9 0 (p1_bq (16, 16) (-2147483648, 2147483647) 2) p1_A2).all (fun T => p1_good T.2) = true := by decide +kernel
theorem p1_c2_19 : (sy_go xt_mt xt_ia xs_Z (p1_S 6) 3000 9 0 (p1_bq (17, 17) (-2147483648, 2147483647) 2) p1_A2).all (fun T => p1_good T.2) = true := by decide +kernel
