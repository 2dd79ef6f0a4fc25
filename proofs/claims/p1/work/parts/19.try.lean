set_option maxRecDepth 100000 in
theorem zz_dr : an_fin 6 3000 12 3000 (an_ce (an_env0.set 2 (49, 50)) 723) = true := by decide +kernel
