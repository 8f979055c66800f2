/-! the printed code is the code: decided by program -/
set_option maxRecDepth 100000 in
theorem ab_kc_X8_isLane_0 : kX8_isLane.all (ab_chk RX8 1 (decide (yX8_isLane.name = "<init>")) cX8_isLane) = true := by decide +kernel
theorem ab_kc_X8_isLane : kX8_isLane.all (ab_chk RX8 1 (decide (yX8_isLane.name = "<init>")) cX8_isLane) = true := ab_kc_X8_isLane_0
set_option maxRecDepth 100000 in
theorem ab_kc_X8_exchange_0 : kX8_exchange.all (ab_chk RX8 4 (decide (yX8_exchange.name = "<init>")) cX8_exchange) = true := by decide +kernel
theorem ab_kc_X8_exchange : kX8_exchange.all (ab_chk RX8 4 (decide (yX8_exchange.name = "<init>")) cX8_exchange) = true := ab_kc_X8_exchange_0
set_option maxRecDepth 100000 in
theorem ab_kc_X8_nextSeed_0 : kX8_nextSeed.all (ab_chk RX8 1 (decide (yX8_nextSeed.name = "<init>")) cX8_nextSeed) = true := by decide +kernel
theorem ab_kc_X8_nextSeed : kX8_nextSeed.all (ab_chk RX8 1 (decide (yX8_nextSeed.name = "<init>")) cX8_nextSeed) = true := ab_kc_X8_nextSeed_0
set_option maxRecDepth 100000 in
theorem ab_kc_X8_seedBits_0 : kX8_seedBits.all (ab_chk RX8 1 (decide (yX8_seedBits.name = "<init>")) cX8_seedBits) = true := by decide +kernel
theorem ab_kc_X8_seedBits : kX8_seedBits.all (ab_chk RX8 1 (decide (yX8_seedBits.name = "<init>")) cX8_seedBits) = true := ab_kc_X8_seedBits_0
set_option maxRecDepth 100000 in
theorem ab_kc_X8_isWarm_0 : kX8_isWarm.all (ab_chk RX8 1 (decide (yX8_isWarm.name = "<init>")) cX8_isWarm) = true := by decide +kernel
theorem ab_kc_X8_isWarm : kX8_isWarm.all (ab_chk RX8 1 (decide (yX8_isWarm.name = "<init>")) cX8_isWarm) = true := ab_kc_X8_isWarm_0
set_option maxRecDepth 100000 in
theorem ab_kc_X8_rate_0 : kX8_rate.all (ab_chk RX8 2 (decide (yX8_rate.name = "<init>")) cX8_rate) = true := by decide +kernel
theorem ab_kc_X8_rate : kX8_rate.all (ab_chk RX8 2 (decide (yX8_rate.name = "<init>")) cX8_rate) = true := ab_kc_X8_rate_0
set_option maxRecDepth 100000 in
theorem ab_kc_X8_cooled_0 : kX8_cooled.all (ab_chk RX8 2 (decide (yX8_cooled.name = "<init>")) cX8_cooled) = true := by decide +kernel
theorem ab_kc_X8_cooled : kX8_cooled.all (ab_chk RX8 2 (decide (yX8_cooled.name = "<init>")) cX8_cooled) = true := ab_kc_X8_cooled_0
set_option maxRecDepth 100000 in
theorem ab_kc_X8_cooledFor_0 : kX8_cooledFor.all (ab_chk RX8 5 (decide (yX8_cooledFor.name = "<init>")) cX8_cooledFor) = true := by decide +kernel
theorem ab_kc_X8_cooledFor : kX8_cooledFor.all (ab_chk RX8 5 (decide (yX8_cooledFor.name = "<init>")) cX8_cooledFor) = true := ab_kc_X8_cooledFor_0
set_option maxRecDepth 100000 in
theorem ab_kc_X8_weightOfWarm_0 : kX8_weightOfWarm.all (ab_chk RX8 6 (decide (yX8_weightOfWarm.name = "<init>")) cX8_weightOfWarm) = true := by decide +kernel
theorem ab_kc_X8_weightOfWarm : kX8_weightOfWarm.all (ab_chk RX8 6 (decide (yX8_weightOfWarm.name = "<init>")) cX8_weightOfWarm) = true := ab_kc_X8_weightOfWarm_0
set_option maxRecDepth 100000 in
theorem ab_kc_X8_weightOfWarmth_0 : kX8_weightOfWarmth.all (ab_chk RX8 6 (decide (yX8_weightOfWarmth.name = "<init>")) cX8_weightOfWarmth) = true := by decide +kernel
theorem ab_kc_X8_weightOfWarmth : kX8_weightOfWarmth.all (ab_chk RX8 6 (decide (yX8_weightOfWarmth.name = "<init>")) cX8_weightOfWarmth) = true := ab_kc_X8_weightOfWarmth_0
set_option maxRecDepth 100000 in
theorem ab_kc_X8_weightBought_0 : kX8_weightBought.all (ab_chk RX8 6 (decide (yX8_weightBought.name = "<init>")) cX8_weightBought) = true := by decide +kernel
theorem ab_kc_X8_weightBought : kX8_weightBought.all (ab_chk RX8 6 (decide (yX8_weightBought.name = "<init>")) cX8_weightBought) = true := ab_kc_X8_weightBought_0
set_option maxRecDepth 100000 in
theorem ab_kc_X8_weightBoughtLater_0 : kX8_weightBoughtLater.all (ab_chk RX8 6 (decide (yX8_weightBoughtLater.name = "<init>")) cX8_weightBoughtLater) = true := by decide +kernel
theorem ab_kc_X8_weightBoughtLater : kX8_weightBoughtLater.all (ab_chk RX8 6 (decide (yX8_weightBoughtLater.name = "<init>")) cX8_weightBoughtLater) = true := ab_kc_X8_weightBoughtLater_0
set_option maxRecDepth 100000 in
theorem ab_kc_X8_fractionPart_0 : kX8_fractionPart.all (ab_chk RX8 8 (decide (yX8_fractionPart.name = "<init>")) cX8_fractionPart) = true := by decide +kernel
theorem ab_kc_X8_fractionPart : kX8_fractionPart.all (ab_chk RX8 8 (decide (yX8_fractionPart.name = "<init>")) cX8_fractionPart) = true := ab_kc_X8_fractionPart_0
set_option maxRecDepth 100000 in
theorem ab_kc_X8_commonDivisor_0 : kX8_commonDivisor.all (ab_chk RX8 11 (decide (yX8_commonDivisor.name = "<init>")) cX8_commonDivisor) = true := by decide +kernel
theorem ab_kc_X8_commonDivisor : kX8_commonDivisor.all (ab_chk RX8 11 (decide (yX8_commonDivisor.name = "<init>")) cX8_commonDivisor) = true := ab_kc_X8_commonDivisor_0
set_option maxRecDepth 100000 in
theorem ab_kc_X9_init_0 : kX9_init_q0.all (ab_chk RX9 1 (decide (yX9_init.name = "<init>")) cX9_init) = true := by decide +kernel
set_option maxRecDepth 100000 in
theorem ab_kc_X9_init_1 : kX9_init_q1.all (ab_chk RX9 1 (decide (yX9_init.name = "<init>")) cX9_init) = true := by decide +kernel
set_option maxRecDepth 100000 in
theorem ab_kc_X9_init_2 : kX9_init_q2.all (ab_chk RX9 1 (decide (yX9_init.name = "<init>")) cX9_init) = true := by decide +kernel
set_option maxRecDepth 100000 in
theorem ab_kc_X9_init_3 : kX9_init_q3.all (ab_chk RX9 1 (decide (yX9_init.name = "<init>")) cX9_init) = true := by decide +kernel
set_option maxRecDepth 100000 in
theorem ab_kc_X9_init_4 : kX9_init_q4.all (ab_chk RX9 1 (decide (yX9_init.name = "<init>")) cX9_init) = true := by decide +kernel
set_option maxRecDepth 100000 in
theorem ab_kc_X9_init_5 : kX9_init_q5.all (ab_chk RX9 1 (decide (yX9_init.name = "<init>")) cX9_init) = true := by decide +kernel
theorem ab_kc_X9_init : kX9_init.all (ab_chk RX9 1 (decide (yX9_init.name = "<init>")) cX9_init) = true := by
  simp only [kX9_init, List.all_append, ab_kc_X9_init_0, ab_kc_X9_init_1, ab_kc_X9_init_2, ab_kc_X9_init_3, ab_kc_X9_init_4, ab_kc_X9_init_5, Bool.and_self]
set_option maxRecDepth 100000 in
theorem ab_kc_X9_in_0 : kX9_in.all (ab_chk RX9 6 (decide (yX9_in.name = "<init>")) cX9_in) = true := by decide +kernel
theorem ab_kc_X9_in : kX9_in.all (ab_chk RX9 6 (decide (yX9_in.name = "<init>")) cX9_in) = true := ab_kc_X9_in_0
set_option maxRecDepth 100000 in
theorem ab_kc_X9_feed_0 : kX9_feed.all (ab_chk RX9 2 (decide (yX9_feed.name = "<init>")) cX9_feed) = true := by decide +kernel
theorem ab_kc_X9_feed : kX9_feed.all (ab_chk RX9 2 (decide (yX9_feed.name = "<init>")) cX9_feed) = true := ab_kc_X9_feed_0
set_option maxRecDepth 100000 in
theorem ab_kc_X9_end_0 : kX9_end.all (ab_chk RX9 3 (decide (yX9_end.name = "<init>")) cX9_end) = true := by decide +kernel
theorem ab_kc_X9_end : kX9_end.all (ab_chk RX9 3 (decide (yX9_end.name = "<init>")) cX9_end) = true := ab_kc_X9_end_0
set_option maxRecDepth 100000 in
theorem ab_kc_X9_byteAt_0 : kX9_byteAt.all (ab_chk RX9 2 (decide (yX9_byteAt.name = "<init>")) cX9_byteAt) = true := by decide +kernel
theorem ab_kc_X9_byteAt : kX9_byteAt.all (ab_chk RX9 2 (decide (yX9_byteAt.name = "<init>")) cX9_byteAt) = true := ab_kc_X9_byteAt_0
set_option maxRecDepth 100000 in
theorem ab_kc_X9_fails_0 : kX9_fails.all (ab_chk RX9 2 (decide (yX9_fails.name = "<init>")) cX9_fails) = true := by decide +kernel
theorem ab_kc_X9_fails : kX9_fails.all (ab_chk RX9 2 (decide (yX9_fails.name = "<init>")) cX9_fails) = true := ab_kc_X9_fails_0
set_option maxRecDepth 100000 in
theorem ab_kc_X9_nameHere_0 : kX9_nameHere_q0.all (ab_chk RX9 4 (decide (yX9_nameHere.name = "<init>")) cX9_nameHere) = true := by decide +kernel
set_option maxRecDepth 100000 in
theorem ab_kc_X9_nameHere_1 : kX9_nameHere_q1.all (ab_chk RX9 4 (decide (yX9_nameHere.name = "<init>")) cX9_nameHere) = true := by decide +kernel
theorem ab_kc_X9_nameHere : kX9_nameHere.all (ab_chk RX9 4 (decide (yX9_nameHere.name = "<init>")) cX9_nameHere) = true := by
  simp only [kX9_nameHere, List.all_append, ab_kc_X9_nameHere_0, ab_kc_X9_nameHere_1, Bool.and_self]
set_option maxRecDepth 100000 in
theorem ab_kc_X9_step_0 : kX9_step_q0.all (ab_chk RX9 2 (decide (yX9_step.name = "<init>")) cX9_step) = true := by decide +kernel
set_option maxRecDepth 100000 in
theorem ab_kc_X9_step_1 : kX9_step_q1.all (ab_chk RX9 2 (decide (yX9_step.name = "<init>")) cX9_step) = true := by decide +kernel
set_option maxRecDepth 100000 in
theorem ab_kc_X9_step_2 : kX9_step_q2.all (ab_chk RX9 2 (decide (yX9_step.name = "<init>")) cX9_step) = true := by decide +kernel
theorem ab_kc_X9_step : kX9_step.all (ab_chk RX9 2 (decide (yX9_step.name = "<init>")) cX9_step) = true := by
  simp only [kX9_step, List.all_append, ab_kc_X9_step_0, ab_kc_X9_step_1, ab_kc_X9_step_2, Bool.and_self]
set_option maxRecDepth 100000 in
theorem ab_kc_X9_number_0 : kX9_number.all (ab_chk RX9 4 (decide (yX9_number.name = "<init>")) cX9_number) = true := by decide +kernel
theorem ab_kc_X9_number : kX9_number.all (ab_chk RX9 4 (decide (yX9_number.name = "<init>")) cX9_number) = true := ab_kc_X9_number_0
set_option maxRecDepth 100000 in
theorem ab_kc_X9_oneHere_0 : kX9_oneHere.all (ab_chk RX9 2 (decide (yX9_oneHere.name = "<init>")) cX9_oneHere) = true := by decide +kernel
theorem ab_kc_X9_oneHere : kX9_oneHere.all (ab_chk RX9 2 (decide (yX9_oneHere.name = "<init>")) cX9_oneHere) = true := ab_kc_X9_oneHere_0
set_option maxRecDepth 100000 in
theorem ab_kc_X9_readDebt_0 : kX9_readDebt.all (ab_chk RX9 2 (decide (yX9_readDebt.name = "<init>")) cX9_readDebt) = true := by decide +kernel
theorem ab_kc_X9_readDebt : kX9_readDebt.all (ab_chk RX9 2 (decide (yX9_readDebt.name = "<init>")) cX9_readDebt) = true := ab_kc_X9_readDebt_0
set_option maxRecDepth 100000 in
theorem ab_kc_X9_readMore_0 : kX9_readMore_q0.all (ab_chk RX9 3 (decide (yX9_readMore.name = "<init>")) cX9_readMore) = true := by decide +kernel
set_option maxRecDepth 100000 in
theorem ab_kc_X9_readMore_1 : kX9_readMore_q1.all (ab_chk RX9 3 (decide (yX9_readMore.name = "<init>")) cX9_readMore) = true := by decide +kernel
set_option maxRecDepth 100000 in
theorem ab_kc_X9_readMore_2 : kX9_readMore_q2.all (ab_chk RX9 3 (decide (yX9_readMore.name = "<init>")) cX9_readMore) = true := by decide +kernel
theorem ab_kc_X9_readMore : kX9_readMore.all (ab_chk RX9 3 (decide (yX9_readMore.name = "<init>")) cX9_readMore) = true := by
  simp only [kX9_readMore, List.all_append, ab_kc_X9_readMore_0, ab_kc_X9_readMore_1, ab_kc_X9_readMore_2, Bool.and_self]
set_option maxRecDepth 100000 in
theorem ab_kc_X9_readLine_0 : kX9_readLine_q0.all (ab_chk RX9 2 (decide (yX9_readLine.name = "<init>")) cX9_readLine) = true := by decide +kernel
set_option maxRecDepth 100000 in
theorem ab_kc_X9_readLine_1 : kX9_readLine_q1.all (ab_chk RX9 2 (decide (yX9_readLine.name = "<init>")) cX9_readLine) = true := by decide +kernel
theorem ab_kc_X9_readLine : kX9_readLine.all (ab_chk RX9 2 (decide (yX9_readLine.name = "<init>")) cX9_readLine) = true := by
  simp only [kX9_readLine, List.all_append, ab_kc_X9_readLine_0, ab_kc_X9_readLine_1, Bool.and_self]
set_option maxRecDepth 100000 in
theorem ab_kc_X9_text_0 : kX9_text_q0.all (ab_chk RX9 3 (decide (yX9_text.name = "<init>")) cX9_text) = true := by decide +kernel
set_option maxRecDepth 100000 in
theorem ab_kc_X9_text_1 : kX9_text_q1.all (ab_chk RX9 3 (decide (yX9_text.name = "<init>")) cX9_text) = true := by decide +kernel
set_option maxRecDepth 100000 in
theorem ab_kc_X9_text_2 : kX9_text_q2.all (ab_chk RX9 3 (decide (yX9_text.name = "<init>")) cX9_text) = true := by decide +kernel
theorem ab_kc_X9_text : kX9_text.all (ab_chk RX9 3 (decide (yX9_text.name = "<init>")) cX9_text) = true := by
  simp only [kX9_text, List.all_append, ab_kc_X9_text_0, ab_kc_X9_text_1, ab_kc_X9_text_2, Bool.and_self]
set_option maxRecDepth 100000 in
theorem ab_kc_X9_fault_0 : kX9_fault.all (ab_chk RX9 1 (decide (yX9_fault.name = "<init>")) cX9_fault) = true := by decide +kernel
theorem ab_kc_X9_fault : kX9_fault.all (ab_chk RX9 1 (decide (yX9_fault.name = "<init>")) cX9_fault) = true := ab_kc_X9_fault_0
set_option maxRecDepth 100000 in
theorem ab_kc_X9_isOne_0 : kX9_isOne.all (ab_chk RX9 2 (decide (yX9_isOne.name = "<init>")) cX9_isOne) = true := by decide +kernel
theorem ab_kc_X9_isOne : kX9_isOne.all (ab_chk RX9 2 (decide (yX9_isOne.name = "<init>")) cX9_isOne) = true := ab_kc_X9_isOne_0
set_option maxRecDepth 100000 in
theorem ab_kc_X9_isStone_0 : kX9_isStone.all (ab_chk RX9 2 (decide (yX9_isStone.name = "<init>")) cX9_isStone) = true := by decide +kernel
theorem ab_kc_X9_isStone : kX9_isStone.all (ab_chk RX9 2 (decide (yX9_isStone.name = "<init>")) cX9_isStone) = true := ab_kc_X9_isStone_0
set_option maxRecDepth 100000 in
theorem ab_kc_X9_isDebt_0 : kX9_isDebt.all (ab_chk RX9 2 (decide (yX9_isDebt.name = "<init>")) cX9_isDebt) = true := by decide +kernel
theorem ab_kc_X9_isDebt : kX9_isDebt.all (ab_chk RX9 2 (decide (yX9_isDebt.name = "<init>")) cX9_isDebt) = true := ab_kc_X9_isDebt_0
set_option maxRecDepth 100000 in
theorem ab_kc_X9_rule_0 : kX9_rule.all (ab_chk RX9 2 (decide (yX9_rule.name = "<init>")) cX9_rule) = true := by decide +kernel
theorem ab_kc_X9_rule : kX9_rule.all (ab_chk RX9 2 (decide (yX9_rule.name = "<init>")) cX9_rule) = true := ab_kc_X9_rule_0
set_option maxRecDepth 100000 in
theorem ab_kc_X9_rateOf_0 : kX9_rateOf.all (ab_chk RX9 2 (decide (yX9_rateOf.name = "<init>")) cX9_rateOf) = true := by decide +kernel
theorem ab_kc_X9_rateOf : kX9_rateOf.all (ab_chk RX9 2 (decide (yX9_rateOf.name = "<init>")) cX9_rateOf) = true := ab_kc_X9_rateOf_0
set_option maxRecDepth 100000 in
theorem ab_kc_X9_rateOn_0 : kX9_rateOn.all (ab_chk RX9 3 (decide (yX9_rateOn.name = "<init>")) cX9_rateOn) = true := by decide +kernel
theorem ab_kc_X9_rateOn : kX9_rateOn.all (ab_chk RX9 3 (decide (yX9_rateOn.name = "<init>")) cX9_rateOn) = true := ab_kc_X9_rateOn_0
set_option maxRecDepth 100000 in
theorem ab_kc_X9_cooled_0 : kX9_cooled.all (ab_chk RX9 3 (decide (yX9_cooled.name = "<init>")) cX9_cooled) = true := by decide +kernel
theorem ab_kc_X9_cooled : kX9_cooled.all (ab_chk RX9 3 (decide (yX9_cooled.name = "<init>")) cX9_cooled) = true := ab_kc_X9_cooled_0
set_option maxRecDepth 100000 in
theorem ab_kc_X9_one_0 : kX9_one_q0.all (ab_chk RX9 6 (decide (yX9_one.name = "<init>")) cX9_one) = true := by decide +kernel
set_option maxRecDepth 100000 in
theorem ab_kc_X9_one_1 : kX9_one_q1.all (ab_chk RX9 6 (decide (yX9_one.name = "<init>")) cX9_one) = true := by decide +kernel
theorem ab_kc_X9_one : kX9_one.all (ab_chk RX9 6 (decide (yX9_one.name = "<init>")) cX9_one) = true := by
  simp only [kX9_one, List.all_append, ab_kc_X9_one_0, ab_kc_X9_one_1, Bool.and_self]
set_option maxRecDepth 100000 in
theorem ab_kc_X9_stone_0 : kX9_stone.all (ab_chk RX9 3 (decide (yX9_stone.name = "<init>")) cX9_stone) = true := by decide +kernel
theorem ab_kc_X9_stone : kX9_stone.all (ab_chk RX9 3 (decide (yX9_stone.name = "<init>")) cX9_stone) = true := ab_kc_X9_stone_0
set_option maxRecDepth 100000 in
theorem ab_kc_X9_debt_0 : kX9_debt.all (ab_chk RX9 3 (decide (yX9_debt.name = "<init>")) cX9_debt) = true := by decide +kernel
theorem ab_kc_X9_debt : kX9_debt.all (ab_chk RX9 3 (decide (yX9_debt.name = "<init>")) cX9_debt) = true := ab_kc_X9_debt_0
set_option maxRecDepth 100000 in
theorem ab_kc_X9_price_0 : kX9_price.all (ab_chk RX9 2 (decide (yX9_price.name = "<init>")) cX9_price) = true := by decide +kernel
theorem ab_kc_X9_price : kX9_price.all (ab_chk RX9 2 (decide (yX9_price.name = "<init>")) cX9_price) = true := ab_kc_X9_price_0
set_option maxRecDepth 100000 in
theorem ab_okc_3 : ∀ mi ∈ ab_mt_3, mi.2.2.2.2.2.2.all (ab_chk mi.1 mi.2.2.2.1 (decide (mi.2.1.name = "<init>")) mi.2.2.1) = true := List.forall_mem_cons.mpr ⟨ab_kc_X8_isLane, List.forall_mem_cons.mpr ⟨ab_kc_X8_exchange, List.forall_mem_cons.mpr ⟨ab_kc_X8_nextSeed, List.forall_mem_cons.mpr ⟨ab_kc_X8_seedBits, List.forall_mem_cons.mpr ⟨ab_kc_X8_isWarm, List.forall_mem_cons.mpr ⟨ab_kc_X8_rate, List.forall_mem_cons.mpr ⟨ab_kc_X8_cooled, List.forall_mem_cons.mpr ⟨ab_kc_X8_cooledFor, List.forall_mem_cons.mpr ⟨ab_kc_X8_weightOfWarm, List.forall_mem_cons.mpr ⟨ab_kc_X8_weightOfWarmth, List.forall_mem_cons.mpr ⟨ab_kc_X8_weightBought, List.forall_mem_cons.mpr ⟨ab_kc_X8_weightBoughtLater, List.forall_mem_cons.mpr ⟨ab_kc_X8_fractionPart, List.forall_mem_cons.mpr ⟨ab_kc_X8_commonDivisor, List.forall_mem_cons.mpr ⟨ab_kc_X9_init, List.forall_mem_cons.mpr ⟨ab_kc_X9_in, List.forall_mem_cons.mpr ⟨ab_kc_X9_feed, List.forall_mem_cons.mpr ⟨ab_kc_X9_end, List.forall_mem_cons.mpr ⟨ab_kc_X9_byteAt, List.forall_mem_cons.mpr ⟨ab_kc_X9_fails, List.forall_mem_cons.mpr ⟨ab_kc_X9_nameHere, List.forall_mem_cons.mpr ⟨ab_kc_X9_step, List.forall_mem_cons.mpr ⟨ab_kc_X9_number, List.forall_mem_cons.mpr ⟨ab_kc_X9_oneHere, List.forall_mem_cons.mpr ⟨ab_kc_X9_readDebt, List.forall_mem_cons.mpr ⟨ab_kc_X9_readMore, List.forall_mem_cons.mpr ⟨ab_kc_X9_readLine, List.forall_mem_cons.mpr ⟨ab_kc_X9_text, List.forall_mem_cons.mpr ⟨ab_kc_X9_fault, List.forall_mem_cons.mpr ⟨ab_kc_X9_isOne, List.forall_mem_cons.mpr ⟨ab_kc_X9_isStone, List.forall_mem_cons.mpr ⟨ab_kc_X9_isDebt, List.forall_mem_cons.mpr ⟨ab_kc_X9_rule, List.forall_mem_cons.mpr ⟨ab_kc_X9_rateOf, List.forall_mem_cons.mpr ⟨ab_kc_X9_rateOn, List.forall_mem_cons.mpr ⟨ab_kc_X9_cooled, List.forall_mem_cons.mpr ⟨ab_kc_X9_one, List.forall_mem_cons.mpr ⟨ab_kc_X9_stone, List.forall_mem_cons.mpr ⟨ab_kc_X9_debt, List.forall_mem_cons.mpr ⟨ab_kc_X9_price, fun _ h => absurd h List.not_mem_nil⟩⟩⟩⟩⟩⟩⟩⟩⟩⟩⟩⟩⟩⟩⟩⟩⟩⟩⟩⟩⟩⟩⟩⟩⟩⟩⟩⟩⟩⟩⟩⟩⟩⟩⟩⟩⟩⟩⟩⟩
set_option maxRecDepth 100000 in
theorem ab_ok_3 : (ab_mt_3.zip ab_hn_3).all (fun x => ab_okm x.1 x.2) = true := by decide +kernel
theorem ab_okl_3 : ab_mt_3.length = ab_hn_3.length := by decide +kernel
