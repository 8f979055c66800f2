/-! the printed code is the code: decided by program -/
set_option maxRecDepth 100000 in
theorem ab_kc_X9_text_0 : kX9_text_q0.all (ab_chk RX9 3 (decide (yX9_text.name = "<init>")) cX9_text) = true := by decide +kernel
set_option maxRecDepth 100000 in
theorem ab_kc_X9_text_1 : kX9_text_q1.all (ab_chk RX9 3 (decide (yX9_text.name = "<init>")) cX9_text) = true := by decide +kernel
set_option maxRecDepth 100000 in
theorem ab_kc_X9_text_2 : kX9_text_q2.all (ab_chk RX9 3 (decide (yX9_text.name = "<init>")) cX9_text) = true := by decide +kernel
theorem ab_kc_X9_text : kX9_text.all (ab_chk RX9 3 (decide (yX9_text.name = "<init>")) cX9_text) = true := by
  simp only [kX9_text, List.all_append, ab_kc_X9_text_0, ab_kc_X9_text_1, ab_kc_X9_text_2, Bool.and_self]
set_option maxRecDepth 100000 in
theorem ab_kc_X9_fault_0 : kX9_fault.all (ab_chk RX9 1 (decide (yX9_fault.name = "<init>")) cX9_fault) = true := by decide +kernel
theorem ab_kc_X9_fault : kX9_fault.all (ab_chk RX9 1 (decide (yX9_fault.name = "<init>")) cX9_fault) = true := ab_kc_X9_fault_0
set_option maxRecDepth 100000 in
theorem ab_kc_X9_isOne_0 : kX9_isOne.all (ab_chk RX9 2 (decide (yX9_isOne.name = "<init>")) cX9_isOne) = true := by decide +kernel
theorem ab_kc_X9_isOne : kX9_isOne.all (ab_chk RX9 2 (decide (yX9_isOne.name = "<init>")) cX9_isOne) = true := ab_kc_X9_isOne_0
set_option maxRecDepth 100000 in
theorem ab_kc_X9_isStone_0 : kX9_isStone.all (ab_chk RX9 2 (decide (yX9_isStone.name = "<init>")) cX9_isStone) = true := by decide +kernel
theorem ab_kc_X9_isStone : kX9_isStone.all (ab_chk RX9 2 (decide (yX9_isStone.name = "<init>")) cX9_isStone) = true := ab_kc_X9_isStone_0
set_option maxRecDepth 100000 in
theorem ab_kc_X9_isDebt_0 : kX9_isDebt.all (ab_chk RX9 2 (decide (yX9_isDebt.name = "<init>")) cX9_isDebt) = true := by decide +kernel
theorem ab_kc_X9_isDebt : kX9_isDebt.all (ab_chk RX9 2 (decide (yX9_isDebt.name = "<init>")) cX9_isDebt) = true := ab_kc_X9_isDebt_0
set_option maxRecDepth 100000 in
theorem ab_kc_X9_rule_0 : kX9_rule.all (ab_chk RX9 2 (decide (yX9_rule.name = "<init>")) cX9_rule) = true := by decide +kernel
theorem ab_kc_X9_rule : kX9_rule.all (ab_chk RX9 2 (decide (yX9_rule.name = "<init>")) cX9_rule) = true := ab_kc_X9_rule_0
set_option maxRecDepth 100000 in
theorem ab_kc_X9_rateOf_0 : kX9_rateOf.all (ab_chk RX9 2 (decide (yX9_rateOf.name = "<init>")) cX9_rateOf) = true := by decide +kernel
theorem ab_kc_X9_rateOf : kX9_rateOf.all (ab_chk RX9 2 (decide (yX9_rateOf.name = "<init>")) cX9_rateOf) = true := ab_kc_X9_rateOf_0
set_option maxRecDepth 100000 in
theorem ab_kc_X9_rateOn_0 : kX9_rateOn.all (ab_chk RX9 3 (decide (yX9_rateOn.name = "<init>")) cX9_rateOn) = true := by decide +kernel
theorem ab_kc_X9_rateOn : kX9_rateOn.all (ab_chk RX9 3 (decide (yX9_rateOn.name = "<init>")) cX9_rateOn) = true := ab_kc_X9_rateOn_0
set_option maxRecDepth 100000 in
theorem ab_kc_X9_cooled_0 : kX9_cooled.all (ab_chk RX9 3 (decide (yX9_cooled.name = "<init>")) cX9_cooled) = true := by decide +kernel
theorem ab_kc_X9_cooled : kX9_cooled.all (ab_chk RX9 3 (decide (yX9_cooled.name = "<init>")) cX9_cooled) = true := ab_kc_X9_cooled_0
set_option maxRecDepth 100000 in
theorem ab_kc_X9_one_0 : kX9_one_q0.all (ab_chk RX9 6 (decide (yX9_one.name = "<init>")) cX9_one) = true := by decide +kernel
set_option maxRecDepth 100000 in
theorem ab_kc_X9_one_1 : kX9_one_q1.all (ab_chk RX9 6 (decide (yX9_one.name = "<init>")) cX9_one) = true := by decide +kernel
theorem ab_kc_X9_one : kX9_one.all (ab_chk RX9 6 (decide (yX9_one.name = "<init>")) cX9_one) = true := by
  simp only [kX9_one, List.all_append, ab_kc_X9_one_0, ab_kc_X9_one_1, Bool.and_self]
set_option maxRecDepth 100000 in
theorem ab_kc_X9_stone_0 : kX9_stone.all (ab_chk RX9 3 (decide (yX9_stone.name = "<init>")) cX9_stone) = true := by decide +kernel
theorem ab_kc_X9_stone : kX9_stone.all (ab_chk RX9 3 (decide (yX9_stone.name = "<init>")) cX9_stone) = true := ab_kc_X9_stone_0
set_option maxRecDepth 100000 in
theorem ab_kc_X9_debt_0 : kX9_debt.all (ab_chk RX9 3 (decide (yX9_debt.name = "<init>")) cX9_debt) = true := by decide +kernel
theorem ab_kc_X9_debt : kX9_debt.all (ab_chk RX9 3 (decide (yX9_debt.name = "<init>")) cX9_debt) = true := ab_kc_X9_debt_0
set_option maxRecDepth 100000 in
theorem ab_kc_X9_price_0 : kX9_price.all (ab_chk RX9 2 (decide (yX9_price.name = "<init>")) cX9_price) = true := by decide +kernel
theorem ab_kc_X9_price : kX9_price.all (ab_chk RX9 2 (decide (yX9_price.name = "<init>")) cX9_price) = true := ab_kc_X9_price_0
set_option maxRecDepth 100000 in
theorem ab_kc_X9_puts_0 : kX9_puts.all (ab_chk RX9 6 (decide (yX9_puts.name = "<init>")) cX9_puts) = true := by decide +kernel
theorem ab_kc_X9_puts : kX9_puts.all (ab_chk RX9 6 (decide (yX9_puts.name = "<init>")) cX9_puts) = true := ab_kc_X9_puts_0
set_option maxRecDepth 100000 in
theorem ab_kc_X9_dress_0 : kX9_dress.all (ab_chk RX9 4 (decide (yX9_dress.name = "<init>")) cX9_dress) = true := by decide +kernel
theorem ab_kc_X9_dress : kX9_dress.all (ab_chk RX9 4 (decide (yX9_dress.name = "<init>")) cX9_dress) = true := ab_kc_X9_dress_0
