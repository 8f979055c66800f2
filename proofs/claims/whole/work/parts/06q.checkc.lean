/-! the printed code is the code: decided by program -/
set_option maxRecDepth 100000 in
theorem ab_kc_X9_step_0 : kX9_step_q0.all (ab_chk RX9 2 (decide (yX9_step.name = "<init>")) cX9_step) = true := by decide +kernel
set_option maxRecDepth 100000 in
theorem ab_kc_X9_step_1 : kX9_step_q1.all (ab_chk RX9 2 (decide (yX9_step.name = "<init>")) cX9_step) = true := by decide +kernel
set_option maxRecDepth 100000 in
theorem ab_kc_X9_step_2 : kX9_step_q2.all (ab_chk RX9 2 (decide (yX9_step.name = "<init>")) cX9_step) = true := by decide +kernel
theorem ab_kc_X9_step : kX9_step.all (ab_chk RX9 2 (decide (yX9_step.name = "<init>")) cX9_step) = true := by
  simp only [kX9_step, List.all_append, ab_kc_X9_step_0, ab_kc_X9_step_1, ab_kc_X9_step_2, Bool.and_self]
set_option maxRecDepth 100000 in
theorem ab_kc_X9_number_0 : kX9_number.all (ab_chk RX9 4 (decide (yX9_number.name = "<init>")) cX9_number) = true := by decide +kernel
theorem ab_kc_X9_number : kX9_number.all (ab_chk RX9 4 (decide (yX9_number.name = "<init>")) cX9_number) = true := ab_kc_X9_number_0
set_option maxRecDepth 100000 in
theorem ab_kc_X9_oneHere_0 : kX9_oneHere.all (ab_chk RX9 2 (decide (yX9_oneHere.name = "<init>")) cX9_oneHere) = true := by decide +kernel
theorem ab_kc_X9_oneHere : kX9_oneHere.all (ab_chk RX9 2 (decide (yX9_oneHere.name = "<init>")) cX9_oneHere) = true := ab_kc_X9_oneHere_0
set_option maxRecDepth 100000 in
theorem ab_kc_X9_readDebt_0 : kX9_readDebt.all (ab_chk RX9 2 (decide (yX9_readDebt.name = "<init>")) cX9_readDebt) = true := by decide +kernel
theorem ab_kc_X9_readDebt : kX9_readDebt.all (ab_chk RX9 2 (decide (yX9_readDebt.name = "<init>")) cX9_readDebt) = true := ab_kc_X9_readDebt_0
set_option maxRecDepth 100000 in
theorem ab_kc_X9_readMore_0 : kX9_readMore_q0.all (ab_chk RX9 3 (decide (yX9_readMore.name = "<init>")) cX9_readMore) = true := by decide +kernel
set_option maxRecDepth 100000 in
theorem ab_kc_X9_readMore_1 : kX9_readMore_q1.all (ab_chk RX9 3 (decide (yX9_readMore.name = "<init>")) cX9_readMore) = true := by decide +kernel
set_option maxRecDepth 100000 in
theorem ab_kc_X9_readMore_2 : kX9_readMore_q2.all (ab_chk RX9 3 (decide (yX9_readMore.name = "<init>")) cX9_readMore) = true := by decide +kernel
theorem ab_kc_X9_readMore : kX9_readMore.all (ab_chk RX9 3 (decide (yX9_readMore.name = "<init>")) cX9_readMore) = true := by
  simp only [kX9_readMore, List.all_append, ab_kc_X9_readMore_0, ab_kc_X9_readMore_1, ab_kc_X9_readMore_2, Bool.and_self]
set_option maxRecDepth 100000 in
theorem ab_kc_X9_readLine_0 : kX9_readLine_q0.all (ab_chk RX9 2 (decide (yX9_readLine.name = "<init>")) cX9_readLine) = true := by decide +kernel
set_option maxRecDepth 100000 in
theorem ab_kc_X9_readLine_1 : kX9_readLine_q1.all (ab_chk RX9 2 (decide (yX9_readLine.name = "<init>")) cX9_readLine) = true := by decide +kernel
theorem ab_kc_X9_readLine : kX9_readLine.all (ab_chk RX9 2 (decide (yX9_readLine.name = "<init>")) cX9_readLine) = true := by
  simp only [kX9_readLine, List.all_append, ab_kc_X9_readLine_0, ab_kc_X9_readLine_1, Bool.and_self]
