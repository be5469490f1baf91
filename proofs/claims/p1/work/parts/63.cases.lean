/-! More of them. -/
theorem p1_c1_0 : (sy_go xt_mt xt_ia xs_Z (p1_S 6) 3000 9 0 (p1_bq (-2147483648, -1) (-2147483648, 2147483647) 1) p1_A2).all (fun T => p1_good T.2) = true := by decide +kernel
theorem p1_c1_1 : (sy_go xt_mt xt_ia xs_Z (p1_S 6) 3000 9 0 (p1_bq (8, 2147483647) (-2147483648, 2147483647) 1) p1_A2).all (fun T => p1_good T.2) = true := by decide +kernel
theorem p1_c1_2 : (sy_go xt_mt xt_ia xs_Z (p1_S 6) 3000 9 0 (p1_bq (0, 7) (-2147483648, -1) 1) p1_A2).all (fun T => p1_good T.2) = true := by decide +kernel
theorem p1_c1_3 : (sy_go xt_mt xt_ia xs_Z (p1_S 6) 3000 9 0 (p1_bq (0, 7) (4, 2147483647) 1) p1_A2).all (fun T => p1_good T.2) = true := by decide +kernel
theorem p1_c1_4 : (sy_go xt_mt xt_ia xs_Z (p1_S 6) 3000 9 0 (p1_bq (0, 7) (0, 0) 1) p1_A2).all (fun T => p1_good T.2) = true := by decide +kernel
theorem p1_c1_5 : (sy_go xt_mt xt_ia xs_Z (p1_S 6) 3000 9 0 (p1_bq (0, 7) (1, 1) 1) p1_A2).all (fun T => p1_good T.2) = true := by decide +kernel
theorem p1_z0 : (sy_go xt_mt xt_ia xs_Z (p1_S 6) 3000 9 0 (p1_bz (0, 7) (2, 2) (-2147483648, -1) (-2147483648, 2147483647) (-2147483648, 2147483647) 1) p1_A2).all (fun T => p1_good T.2) = true := by decide +kernel
theorem p1_z1 : (sy_go xt_mt xt_ia xs_Z (p1_S 6) 3000 9 0 (p1_bz (0, 7) (2, 2) (8, 2147483647) (-2147483648, 2147483647) (-2147483648, 2147483647) 1) p1_A2).all (fun T => p1_good T.2) = true := by decide +kernel
theorem p1_z2 : (sy_go xt_mt xt_ia xs_Z (p1_S 6) 3000 9 0 (p1_bz (0, 7) (2, 2) (0, 7) (-2147483648, -1) (-2147483648, 2147483647) 1) p1_A2).all (fun T => p1_good T.2) = true := by decide +kernel
theorem p1_z3 : (sy_go xt_mt xt_ia xs_Z (p1_S 6) 3000 9 0 (p1_bz (0, 7) (2, 2) (0, 7) (8, 2147483647) (-2147483648, 2147483647) 1) p1_A2).all (fun T => p1_good T.2) = true := by decide +kernel
theorem p1_z4 : (sy_go xt_mt xt_ia xs_Z (p1_S 6) 3000 9 0 (p1_bz (0, 7) (2, 2) (0, 7) (0, 7) (-2147483648, 2147483647) 1) p1_A2).all (fun T => p1_good T.2) = true := by decide +kernel
theorem p1_z5 : (sy_go xt_mt xt_ia xs_Z (p1_S 6) 3000 9 0 (p1_bz (0, 7) (3, 3) (-2147483648, -1) (-2147483648, 2147483647) (-2147483648, 2147483647) 1) p1_A2).all (fun T => p1_good T.2) = true := by decide +kernel
theorem p1_z6 : (sy_go xt_mt xt_ia xs_Z (p1_S 6) 3000 9 0 (p1_bz (0, 7) (3, 3) (8, 2147483647) (-2147483648, 2147483647) (-2147483648, 2147483647) 1) p1_A2).all (fun T => p1_good T.2) = true := by decide +kernel
theorem p1_z7 : (sy_go xt_mt xt_ia xs_Z (p1_S 6) 3000 9 0 (p1_bz (0, 7) (3, 3) (0, 7) (-2147483648, -1) (-2147483648, 2147483647) 1) p1_A2).all (fun T => p1_good T.2) = true := by decide +kernel
theorem p1_z8 : (sy_go xt_mt xt_ia xs_Z (p1_S 6) 3000 9 0 (p1_bz (0, 7) (3, 3) (0, 7) (8, 2147483647) (-2147483648, 2147483647) 1) p1_A2).all (fun T => p1_good T.2) = true := by decide +kernel
theorem p1_z9 : (sy_go xt_mt xt_ia xs_Z (p1_S 6) 3000 9 0 (p1_bz (0, 7) (3, 3) (0, 7) (0, 7) (-2147483648, -1) 1) p1_A2).all (fun T => p1_good T.2) = true := by decide +kernel
theorem p1_z10 : (sy_go xt_mt xt_ia xs_Z (p1_S 6) 3000 9 0 (p1_bz (0, 7) (3, 3) (0, 7) (0, 7) (8, 2147483647) 1) p1_A2).all (fun T => p1_good T.2) = true := by decide +kernel
theorem p1_z11 : (sy_go xt_mt xt_ia xs_Z (p1_S 6) 3000 9 0 (p1_bz (0, 7) (3, 3) (0, 7) (0, 7) (0, 7) 1) p1_A2).all (fun T => p1_good T.2) = true := by decide +kernel
