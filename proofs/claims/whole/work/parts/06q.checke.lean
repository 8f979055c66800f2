/-! the printed code is the code: decided by program -/
set_option maxRecDepth 100000 in
theorem ab_kc_X9_warm_0 : kX9_warm.all (ab_chk RX9 4 (decide (yX9_warm.name = "<init>")) cX9_warm) = true := by decide +kernel
theorem ab_kc_X9_warm : kX9_warm.all (ab_chk RX9 4 (decide (yX9_warm.name = "<init>")) cX9_warm) = true := ab_kc_X9_warm_0
set_option maxRecDepth 100000 in
theorem ab_kc_X9_set_0 : kX9_set.all (ab_chk RX9 3 (decide (yX9_set.name = "<init>")) cX9_set) = true := by decide +kernel
theorem ab_kc_X9_set : kX9_set.all (ab_chk RX9 3 (decide (yX9_set.name = "<init>")) cX9_set) = true := ab_kc_X9_set_0
set_option maxRecDepth 100000 in
theorem ab_kc_X9_ask_0 : kX9_ask.all (ab_chk RX9 3 (decide (yX9_ask.name = "<init>")) cX9_ask) = true := by decide +kernel
theorem ab_kc_X9_ask : kX9_ask.all (ab_chk RX9 3 (decide (yX9_ask.name = "<init>")) cX9_ask) = true := ab_kc_X9_ask_0
set_option maxRecDepth 100000 in
theorem ab_kc_X9_owe_0 : kX9_owe.all (ab_chk RX9 3 (decide (yX9_owe.name = "<init>")) cX9_owe) = true := by decide +kernel
theorem ab_kc_X9_owe : kX9_owe.all (ab_chk RX9 3 (decide (yX9_owe.name = "<init>")) cX9_owe) = true := ab_kc_X9_owe_0
set_option maxRecDepth 100000 in
theorem ab_kc_X9_halve_0 : kX9_halve_q0.all (ab_chk RX9 3 (decide (yX9_halve.name = "<init>")) cX9_halve) = true := by decide +kernel
set_option maxRecDepth 100000 in
theorem ab_kc_X9_halve_1 : kX9_halve_q1.all (ab_chk RX9 3 (decide (yX9_halve.name = "<init>")) cX9_halve) = true := by decide +kernel
theorem ab_kc_X9_halve : kX9_halve.all (ab_chk RX9 3 (decide (yX9_halve.name = "<init>")) cX9_halve) = true := by
  simp only [kX9_halve, List.all_append, ab_kc_X9_halve_0, ab_kc_X9_halve_1, Bool.and_self]
set_option maxRecDepth 100000 in
theorem ab_kc_X9_minuteOn_0 : kX9_minuteOn.all (ab_chk RX9 5 (decide (yX9_minuteOn.name = "<init>")) cX9_minuteOn) = true := by decide +kernel
theorem ab_kc_X9_minuteOn : kX9_minuteOn.all (ab_chk RX9 5 (decide (yX9_minuteOn.name = "<init>")) cX9_minuteOn) = true := ab_kc_X9_minuteOn_0
set_option maxRecDepth 100000 in
theorem ab_kc_X9_goesOn_0 : kX9_goesOn.all (ab_chk RX9 4 (decide (yX9_goesOn.name = "<init>")) cX9_goesOn) = true := by decide +kernel
theorem ab_kc_X9_goesOn : kX9_goesOn.all (ab_chk RX9 4 (decide (yX9_goesOn.name = "<init>")) cX9_goesOn) = true := ab_kc_X9_goesOn_0
set_option maxRecDepth 100000 in
theorem ab_kc_X9_apart_0 : kX9_apart.all (ab_chk RX9 3 (decide (yX9_apart.name = "<init>")) cX9_apart) = true := by decide +kernel
theorem ab_kc_X9_apart : kX9_apart.all (ab_chk RX9 3 (decide (yX9_apart.name = "<init>")) cX9_apart) = true := ab_kc_X9_apart_0
set_option maxRecDepth 100000 in
theorem ab_kc_X9_wayOn_0 : kX9_wayOn.all (ab_chk RX9 4 (decide (yX9_wayOn.name = "<init>")) cX9_wayOn) = true := by decide +kernel
theorem ab_kc_X9_wayOn : kX9_wayOn.all (ab_chk RX9 4 (decide (yX9_wayOn.name = "<init>")) cX9_wayOn) = true := ab_kc_X9_wayOn_0
set_option maxRecDepth 100000 in
theorem ab_kc_X9_paysOn_0 : kX9_paysOn_q0.all (ab_chk RX9 8 (decide (yX9_paysOn.name = "<init>")) cX9_paysOn) = true := by decide +kernel
set_option maxRecDepth 100000 in
theorem ab_kc_X9_paysOn_1 : kX9_paysOn_q1.all (ab_chk RX9 8 (decide (yX9_paysOn.name = "<init>")) cX9_paysOn) = true := by decide +kernel
theorem ab_kc_X9_paysOn : kX9_paysOn.all (ab_chk RX9 8 (decide (yX9_paysOn.name = "<init>")) cX9_paysOn) = true := by
  simp only [kX9_paysOn, List.all_append, ab_kc_X9_paysOn_0, ab_kc_X9_paysOn_1, Bool.and_self]
set_option maxRecDepth 100000 in
theorem ab_kc_X9_go_0 : kX9_go.all (ab_chk RX9 2 (decide (yX9_go.name = "<init>")) cX9_go) = true := by decide +kernel
theorem ab_kc_X9_go : kX9_go.all (ab_chk RX9 2 (decide (yX9_go.name = "<init>")) cX9_go) = true := ab_kc_X9_go_0
set_option maxRecDepth 100000 in
theorem ab_kc_X9_warmOnes_0 : kX9_warmOnes.all (ab_chk RX9 3 (decide (yX9_warmOnes.name = "<init>")) cX9_warmOnes) = true := by decide +kernel
theorem ab_kc_X9_warmOnes : kX9_warmOnes.all (ab_chk RX9 3 (decide (yX9_warmOnes.name = "<init>")) cX9_warmOnes) = true := ab_kc_X9_warmOnes_0
