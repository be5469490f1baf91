/-! More of them. -/
theorem p1_c2_0 : (sy_go xt_mt xt_ia xs_Z (p1_S 6) 3000 9 0 (p1_bq (-2147483648, -1) (-2147483648, 2147483647) 2) p1_A2).all (fun T => p1_good T.2) = true := by decide +kernel
theorem p1_c2_1 : (sy_go xt_mt xt_ia xs_Z (p1_S 6) 3000 9 0 (p1_bq (18, 2147483647) (-2147483648, 2147483647) 2) p1_A2).all (fun T => p1_good T.2) = true := by decide +kernel
theorem p1_c2_2 : (sy_go xt_mt xt_ia xs_Z (p1_S 6) 3000 9 0 (p1_bq (0, 0) (-2147483648, 2147483647) 2) p1_A2).all (fun T => p1_good T.2) = true := by decide +kernel
theorem p1_c2_3 : (sy_go xt_mt xt_ia xs_Z (p1_S 6) 3000 9 0 (p1_bq (1, 1) (-2147483648, 2147483647) 2) p1_A2).all (fun T => p1_good T.2) = true := by decide +kernel
theorem p1_c2_4 : (sy_go xt_mt xt_ia xs_Z (p1_S 6) 3000 9 0 (p1_bq (2, 2) (-2147483648, 2147483647) 2) p1_A2).all (fun T => p1_good T.2) = true := by decide +kernel
theorem p1_c2_5 : (sy_go xt_mt xt_ia xs_Z (p1_S 6) 3000 9 0 (p1_bq (3, 3) (-2147483648, 2147483647) 2) p1_A2).all (fun T => p1_good T.2) = true := by decide +kernel
theorem p1_c2_6 : (sy_go xt_mt xt_ia xs_Z (p1_S 6) 3000 9 0 (p1_bq (4, 4) (-2147483648, 2147483647) 2) p1_A2).all (fun T => p1_good T.2) = true := by decide +kernel
theorem p1_c2_7 : (sy_go xt_mt xt_ia xs_Z (p1_S 6) 3000 9 0 (p1_bq (5, 5) (-2147483648, 2147483647) 2) p1_A2).all (fun T => p1_good T.2) = true := by decide +kernel
theorem p1_c2_8 : (sy_go xt_mt xt_ia xs_Z (p1_S 6) 3000 9 0 (p1_bq (6, 6) (-2147483648, 2147483647) 2) p1_A2).all (fun T => p1_good T.2) = true := by decide +kernel
theorem p1_c2_9 : (sy_go xt_mt xt_ia xs_Z (p1_S 6) 3000 9 0 (p1_bq (7, 7) (-2147483648, 2147483647) 2) p1_A2).all (fun T => p1_good T.2) = true := by decide +kernel
theorem p1_c2_10 : (sy_go xt_mt xt_ia xs_Z (p1_S 6) 3000 9 0 (p1_bq (8, 8) (-2147483648, 2147483647) 2) p1_A2).all (fun T => p1_good T.2) = true := by decide +kernel
