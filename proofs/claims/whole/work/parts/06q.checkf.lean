/-! the printed code is the code: decided by program -/
set_option maxRecDepth 100000 in
theorem ab_kc_X9_paid_0 : kX9_paid.all (ab_chk RX9 3 (decide (yX9_paid.name = "<init>")) cX9_paid) = true := by decide +kernel
theorem ab_kc_X9_paid : kX9_paid.all (ab_chk RX9 3 (decide (yX9_paid.name = "<init>")) cX9_paid) = true := ab_kc_X9_paid_0
set_option maxRecDepth 100000 in
theorem ab_kc_X9_pay_0 : kX9_pay.all (ab_chk RX9 3 (decide (yX9_pay.name = "<init>")) cX9_pay) = true := by decide +kernel
theorem ab_kc_X9_pay : kX9_pay.all (ab_chk RX9 3 (decide (yX9_pay.name = "<init>")) cX9_pay) = true := ab_kc_X9_pay_0
set_option maxRecDepth 100000 in
theorem ab_kc_X9_heatNow_0 : kX9_heatNow.all (ab_chk RX9 1 (decide (yX9_heatNow.name = "<init>")) cX9_heatNow) = true := by decide +kernel
theorem ab_kc_X9_heatNow : kX9_heatNow.all (ab_chk RX9 1 (decide (yX9_heatNow.name = "<init>")) cX9_heatNow) = true := ab_kc_X9_heatNow_0
set_option maxRecDepth 100000 in
theorem ab_kc_X9_ovenWay_0 : kX9_ovenWay.all (ab_chk RX9 2 (decide (yX9_ovenWay.name = "<init>")) cX9_ovenWay) = true := by decide +kernel
theorem ab_kc_X9_ovenWay : kX9_ovenWay.all (ab_chk RX9 2 (decide (yX9_ovenWay.name = "<init>")) cX9_ovenWay) = true := ab_kc_X9_ovenWay_0
set_option maxRecDepth 100000 in
theorem ab_kc_X9_heat_0 : kX9_heat_q0.all (ab_chk RX9 3 (decide (yX9_heat.name = "<init>")) cX9_heat) = true := by decide +kernel
set_option maxRecDepth 100000 in
theorem ab_kc_X9_heat_1 : kX9_heat_q1.all (ab_chk RX9 3 (decide (yX9_heat.name = "<init>")) cX9_heat) = true := by decide +kernel
theorem ab_kc_X9_heat : kX9_heat.all (ab_chk RX9 3 (decide (yX9_heat.name = "<init>")) cX9_heat) = true := by
  simp only [kX9_heat, List.all_append, ab_kc_X9_heat_0, ab_kc_X9_heat_1, Bool.and_self]
set_option maxRecDepth 100000 in
theorem ab_kc_X9_afterOf_0 : kX9_afterOf.all (ab_chk RX9 6 (decide (yX9_afterOf.name = "<init>")) cX9_afterOf) = true := by decide +kernel
theorem ab_kc_X9_afterOf : kX9_afterOf.all (ab_chk RX9 6 (decide (yX9_afterOf.name = "<init>")) cX9_afterOf) = true := ab_kc_X9_afterOf_0
set_option maxRecDepth 100000 in
theorem ab_kc_X9_after_0 : kX9_after.all (ab_chk RX9 3 (decide (yX9_after.name = "<init>")) cX9_after) = true := by decide +kernel
theorem ab_kc_X9_after : kX9_after.all (ab_chk RX9 3 (decide (yX9_after.name = "<init>")) cX9_after) = true := ab_kc_X9_after_0
set_option maxRecDepth 100000 in
theorem ab_kc_X9_cold_0 : kX9_cold.all (ab_chk RX9 4 (decide (yX9_cold.name = "<init>")) cX9_cold) = true := by decide +kernel
theorem ab_kc_X9_cold : kX9_cold.all (ab_chk RX9 4 (decide (yX9_cold.name = "<init>")) cX9_cold) = true := ab_kc_X9_cold_0
set_option maxRecDepth 100000 in
theorem ab_kc_X9_laysHands_0 : kX9_laysHands_q0.all (ab_chk RX9 11 (decide (yX9_laysHands.name = "<init>")) cX9_laysHands) = true := by decide +kernel
set_option maxRecDepth 100000 in
theorem ab_kc_X9_laysHands_1 : kX9_laysHands_q1.all (ab_chk RX9 11 (decide (yX9_laysHands.name = "<init>")) cX9_laysHands) = true := by decide +kernel
theorem ab_kc_X9_laysHands : kX9_laysHands.all (ab_chk RX9 11 (decide (yX9_laysHands.name = "<init>")) cX9_laysHands) = true := by
  simp only [kX9_laysHands, List.all_append, ab_kc_X9_laysHands_0, ab_kc_X9_laysHands_1, Bool.and_self]
set_option maxRecDepth 100000 in
theorem ab_kc_X9_handed_0 : kX9_handed_q0.all (ab_chk RX9 7 (decide (yX9_handed.name = "<init>")) cX9_handed) = true := by decide +kernel
set_option maxRecDepth 100000 in
theorem ab_kc_X9_handed_1 : kX9_handed_q1.all (ab_chk RX9 7 (decide (yX9_handed.name = "<init>")) cX9_handed) = true := by decide +kernel
theorem ab_kc_X9_handed : kX9_handed.all (ab_chk RX9 7 (decide (yX9_handed.name = "<init>")) cX9_handed) = true := by
  simp only [kX9_handed, List.all_append, ab_kc_X9_handed_0, ab_kc_X9_handed_1, Bool.and_self]
set_option maxRecDepth 100000 in
theorem ab_kc_X9_way_0 : kX9_way_q0.all (ab_chk RX9 12 (decide (yX9_way.name = "<init>")) cX9_way) = true := by decide +kernel
set_option maxRecDepth 100000 in
theorem ab_kc_X9_way_1 : kX9_way_q1.all (ab_chk RX9 12 (decide (yX9_way.name = "<init>")) cX9_way) = true := by decide +kernel
set_option maxRecDepth 100000 in
theorem ab_kc_X9_way_2 : kX9_way_q2.all (ab_chk RX9 12 (decide (yX9_way.name = "<init>")) cX9_way) = true := by decide +kernel
theorem ab_kc_X9_way : kX9_way.all (ab_chk RX9 12 (decide (yX9_way.name = "<init>")) cX9_way) = true := by
  simp only [kX9_way, List.all_append, ab_kc_X9_way_0, ab_kc_X9_way_1, ab_kc_X9_way_2, Bool.and_self]
