/-! A script of fewer than six ints: no call. -/
theorem p1_r0 : ∀ n, n < 6 → (sy_go xt_mt xt_ia xs_Z (p1_S n) 4000 9 0 p1_bx p1_A0).all (fun T => p1_good T.2) = true := by decide +kernel
