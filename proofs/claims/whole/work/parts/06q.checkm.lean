/-! the printed code is the code: decided by program -/
set_option maxRecDepth 100000 in
theorem ab_kc_L_law_10 : kL_law_q10.all (ab_chk RL 4 false code) = true := by decide +kernel
set_option maxRecDepth 100000 in
theorem ab_kc_L_law_11 : kL_law_q11.all (ab_chk RL 4 false code) = true := by decide +kernel
set_option maxRecDepth 100000 in
theorem ab_kc_L_law_12 : kL_law_q12.all (ab_chk RL 4 false code) = true := by decide +kernel
set_option maxRecDepth 100000 in
theorem ab_kc_L_law_13 : kL_law_q13.all (ab_chk RL 4 false code) = true := by decide +kernel
set_option maxRecDepth 100000 in
theorem ab_kc_L_law_14 : kL_law_q14.all (ab_chk RL 4 false code) = true := by decide +kernel
