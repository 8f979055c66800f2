/-! the printed code is the code: decided by program -/
set_option maxRecDepth 100000 in
theorem ab_kc_X9_spent_0 : kX9_spent_q0.all (ab_chk RX9 12 (decide (yX9_spent.name = "<init>")) cX9_spent) = true := by decide +kernel
set_option maxRecDepth 100000 in
theorem ab_kc_X9_spent_1 : kX9_spent_q1.all (ab_chk RX9 12 (decide (yX9_spent.name = "<init>")) cX9_spent) = true := by decide +kernel
set_option maxRecDepth 100000 in
theorem ab_kc_X9_spent_2 : kX9_spent_q2.all (ab_chk RX9 12 (decide (yX9_spent.name = "<init>")) cX9_spent) = true := by decide +kernel
theorem ab_kc_X9_spent : kX9_spent.all (ab_chk RX9 12 (decide (yX9_spent.name = "<init>")) cX9_spent) = true := by
  simp only [kX9_spent, List.all_append, ab_kc_X9_spent_0, ab_kc_X9_spent_1, ab_kc_X9_spent_2, Bool.and_self]
set_option maxRecDepth 100000 in
theorem ab_kc_X9_spend_0 : kX9_spend.all (ab_chk RX9 5 (decide (yX9_spend.name = "<init>")) cX9_spend) = true := by decide +kernel
theorem ab_kc_X9_spend : kX9_spend.all (ab_chk RX9 5 (decide (yX9_spend.name = "<init>")) cX9_spend) = true := ab_kc_X9_spend_0
set_option maxRecDepth 100000 in
theorem ab_kc_X9_see_0 : kX9_see.all (ab_chk RX9 3 (decide (yX9_see.name = "<init>")) cX9_see) = true := by decide +kernel
theorem ab_kc_X9_see : kX9_see.all (ab_chk RX9 3 (decide (yX9_see.name = "<init>")) cX9_see) = true := ab_kc_X9_see_0
set_option maxRecDepth 100000 in
theorem ab_kc_X9_forget_0 : kX9_forget.all (ab_chk RX9 3 (decide (yX9_forget.name = "<init>")) cX9_forget) = true := by decide +kernel
theorem ab_kc_X9_forget : kX9_forget.all (ab_chk RX9 3 (decide (yX9_forget.name = "<init>")) cX9_forget) = true := ab_kc_X9_forget_0
set_option maxRecDepth 100000 in
theorem ab_kc_X9_isAsSeen_0 : kX9_isAsSeen.all (ab_chk RX9 5 (decide (yX9_isAsSeen.name = "<init>")) cX9_isAsSeen) = true := by decide +kernel
theorem ab_kc_X9_isAsSeen : kX9_isAsSeen.all (ab_chk RX9 5 (decide (yX9_isAsSeen.name = "<init>")) cX9_isAsSeen) = true := ab_kc_X9_isAsSeen_0
set_option maxRecDepth 100000 in
theorem ab_kc_X9_fits_0 : kX9_fits_q0.all (ab_chk RX9 8 (decide (yX9_fits.name = "<init>")) cX9_fits) = true := by decide +kernel
set_option maxRecDepth 100000 in
theorem ab_kc_X9_fits_1 : kX9_fits_q1.all (ab_chk RX9 8 (decide (yX9_fits.name = "<init>")) cX9_fits) = true := by decide +kernel
theorem ab_kc_X9_fits : kX9_fits.all (ab_chk RX9 8 (decide (yX9_fits.name = "<init>")) cX9_fits) = true := by
  simp only [kX9_fits, List.all_append, ab_kc_X9_fits_0, ab_kc_X9_fits_1, Bool.and_self]
set_option maxRecDepth 100000 in
theorem ab_kc_X9_draws_0 : kX9_draws.all (ab_chk RX9 2 (decide (yX9_draws.name = "<init>")) cX9_draws) = true := by decide +kernel
theorem ab_kc_X9_draws : kX9_draws.all (ab_chk RX9 2 (decide (yX9_draws.name = "<init>")) cX9_draws) = true := ab_kc_X9_draws_0
set_option maxRecDepth 100000 in
theorem ab_kc_X9_drift_0 : kX9_drift_q0.all (ab_chk RX9 8 (decide (yX9_drift.name = "<init>")) cX9_drift) = true := by decide +kernel
set_option maxRecDepth 100000 in
theorem ab_kc_X9_drift_1 : kX9_drift_q1.all (ab_chk RX9 8 (decide (yX9_drift.name = "<init>")) cX9_drift) = true := by decide +kernel
theorem ab_kc_X9_drift : kX9_drift.all (ab_chk RX9 8 (decide (yX9_drift.name = "<init>")) cX9_drift) = true := by
  simp only [kX9_drift, List.all_append, ab_kc_X9_drift_0, ab_kc_X9_drift_1, Bool.and_self]
set_option maxRecDepth 100000 in
theorem ab_kc_X9_keep_0 : kX9_keep.all (ab_chk RX9 3 (decide (yX9_keep.name = "<init>")) cX9_keep) = true := by decide +kernel
theorem ab_kc_X9_keep : kX9_keep.all (ab_chk RX9 3 (decide (yX9_keep.name = "<init>")) cX9_keep) = true := ab_kc_X9_keep_0
