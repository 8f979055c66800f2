/-! the printed code is the code: decided by program -/
set_option maxRecDepth 100000 in
theorem ab_kc_L_law_5 : kL_law_q5.all (ab_chk RL 4 false code) = true := by decide +kernel
set_option maxRecDepth 100000 in
theorem ab_kc_L_law_6 : kL_law_q6.all (ab_chk RL 4 false code) = true := by decide +kernel
set_option maxRecDepth 100000 in
theorem ab_kc_L_law_7 : kL_law_q7.all (ab_chk RL 4 false code) = true := by decide +kernel
set_option maxRecDepth 100000 in
theorem ab_kc_L_law_8 : kL_law_q8.all (ab_chk RL 4 false code) = true := by decide +kernel
set_option maxRecDepth 100000 in
theorem ab_kc_L_law_9 : kL_law_q9.all (ab_chk RL 4 false code) = true := by decide +kernel
