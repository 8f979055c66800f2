/-! the printed code is the code: decided by program -/
set_option maxRecDepth 100000 in
theorem ab_kc_L_law_0 : kL_law_q0.all (ab_chk RL 4 false code) = true := by decide +kernel
set_option maxRecDepth 100000 in
theorem ab_kc_L_law_1 : kL_law_q1.all (ab_chk RL 4 false code) = true := by decide +kernel
set_option maxRecDepth 100000 in
theorem ab_kc_L_law_2 : kL_law_q2.all (ab_chk RL 4 false code) = true := by decide +kernel
set_option maxRecDepth 100000 in
theorem ab_kc_L_law_3 : kL_law_q3.all (ab_chk RL 4 false code) = true := by decide +kernel
set_option maxRecDepth 100000 in
theorem ab_kc_L_law_4 : kL_law_q4.all (ab_chk RL 4 false code) = true := by decide +kernel
