/-! the printed code is the code: decided by program -/
set_option maxRecDepth 100000 in
theorem ab_kc_L_law_15 : kL_law_q15.all (ab_chk RL 4 false code) = true := by decide +kernel
set_option maxRecDepth 100000 in
theorem ab_kc_L_law_16 : kL_law_q16.all (ab_chk RL 4 false code) = true := by decide +kernel
