/-! More of them. -/
theorem p1_c11 : (sy_go xi_it xs_Z (p1_S 6) 3000 9 0 (p1_b 11) p1_A2).all (fun T => p1_good T.2) = true := by decide +kernel
