/-! the printed code is the code: decided by program -/
set_option maxRecDepth 100000 in
theorem ab_kc_X8_isLane_0 : kX8_isLane.all (ab_chk RX8 1 (decide (yX8_isLane.name = "<init>")) cX8_isLane) = true := by decide +kernel
theorem ab_kc_X8_isLane : kX8_isLane.all (ab_chk RX8 1 (decide (yX8_isLane.name = "<init>")) cX8_isLane) = true := ab_kc_X8_isLane_0
set_option maxRecDepth 100000 in
theorem ab_kc_X8_exchange_0 : kX8_exchange.all (ab_chk RX8 4 (decide (yX8_exchange.name = "<init>")) cX8_exchange) = true := by decide +kernel
theorem ab_kc_X8_exchange : kX8_exchange.all (ab_chk RX8 4 (decide (yX8_exchange.name = "<init>")) cX8_exchange) = true := ab_kc_X8_exchange_0
set_option maxRecDepth 100000 in
theorem ab_kc_X8_nextSeed_0 : kX8_nextSeed.all (ab_chk RX8 1 (decide (yX8_nextSeed.name = "<init>")) cX8_nextSeed) = true := by decide +kernel
theorem ab_kc_X8_nextSeed : kX8_nextSeed.all (ab_chk RX8 1 (decide (yX8_nextSeed.name = "<init>")) cX8_nextSeed) = true := ab_kc_X8_nextSeed_0
set_option maxRecDepth 100000 in
theorem ab_kc_X8_seedBits_0 : kX8_seedBits.all (ab_chk RX8 1 (decide (yX8_seedBits.name = "<init>")) cX8_seedBits) = true := by decide +kernel
theorem ab_kc_X8_seedBits : kX8_seedBits.all (ab_chk RX8 1 (decide (yX8_seedBits.name = "<init>")) cX8_seedBits) = true := ab_kc_X8_seedBits_0
set_option maxRecDepth 100000 in
theorem ab_kc_X8_isWarm_0 : kX8_isWarm.all (ab_chk RX8 1 (decide (yX8_isWarm.name = "<init>")) cX8_isWarm) = true := by decide +kernel
theorem ab_kc_X8_isWarm : kX8_isWarm.all (ab_chk RX8 1 (decide (yX8_isWarm.name = "<init>")) cX8_isWarm) = true := ab_kc_X8_isWarm_0
set_option maxRecDepth 100000 in
theorem ab_kc_X8_rate_0 : kX8_rate.all (ab_chk RX8 2 (decide (yX8_rate.name = "<init>")) cX8_rate) = true := by decide +kernel
theorem ab_kc_X8_rate : kX8_rate.all (ab_chk RX8 2 (decide (yX8_rate.name = "<init>")) cX8_rate) = true := ab_kc_X8_rate_0
set_option maxRecDepth 100000 in
theorem ab_kc_X8_cooled_0 : kX8_cooled.all (ab_chk RX8 2 (decide (yX8_cooled.name = "<init>")) cX8_cooled) = true := by decide +kernel
theorem ab_kc_X8_cooled : kX8_cooled.all (ab_chk RX8 2 (decide (yX8_cooled.name = "<init>")) cX8_cooled) = true := ab_kc_X8_cooled_0
set_option maxRecDepth 100000 in
theorem ab_kc_X8_cooledFor_0 : kX8_cooledFor.all (ab_chk RX8 5 (decide (yX8_cooledFor.name = "<init>")) cX8_cooledFor) = true := by decide +kernel
theorem ab_kc_X8_cooledFor : kX8_cooledFor.all (ab_chk RX8 5 (decide (yX8_cooledFor.name = "<init>")) cX8_cooledFor) = true := ab_kc_X8_cooledFor_0
set_option maxRecDepth 100000 in
theorem ab_kc_X8_weightOfWarm_0 : kX8_weightOfWarm.all (ab_chk RX8 6 (decide (yX8_weightOfWarm.name = "<init>")) cX8_weightOfWarm) = true := by decide +kernel
theorem ab_kc_X8_weightOfWarm : kX8_weightOfWarm.all (ab_chk RX8 6 (decide (yX8_weightOfWarm.name = "<init>")) cX8_weightOfWarm) = true := ab_kc_X8_weightOfWarm_0
set_option maxRecDepth 100000 in
theorem ab_kc_X8_weightOfWarmth_0 : kX8_weightOfWarmth.all (ab_chk RX8 6 (decide (yX8_weightOfWarmth.name = "<init>")) cX8_weightOfWarmth) = true := by decide +kernel
theorem ab_kc_X8_weightOfWarmth : kX8_weightOfWarmth.all (ab_chk RX8 6 (decide (yX8_weightOfWarmth.name = "<init>")) cX8_weightOfWarmth) = true := ab_kc_X8_weightOfWarmth_0
set_option maxRecDepth 100000 in
theorem ab_kc_X8_weightBought_0 : kX8_weightBought.all (ab_chk RX8 6 (decide (yX8_weightBought.name = "<init>")) cX8_weightBought) = true := by decide +kernel
theorem ab_kc_X8_weightBought : kX8_weightBought.all (ab_chk RX8 6 (decide (yX8_weightBought.name = "<init>")) cX8_weightBought) = true := ab_kc_X8_weightBought_0
set_option maxRecDepth 100000 in
theorem ab_kc_X8_weightBoughtLater_0 : kX8_weightBoughtLater.all (ab_chk RX8 6 (decide (yX8_weightBoughtLater.name = "<init>")) cX8_weightBoughtLater) = true := by decide +kernel
theorem ab_kc_X8_weightBoughtLater : kX8_weightBoughtLater.all (ab_chk RX8 6 (decide (yX8_weightBoughtLater.name = "<init>")) cX8_weightBoughtLater) = true := ab_kc_X8_weightBoughtLater_0
set_option maxRecDepth 100000 in
theorem ab_kc_X8_fractionPart_0 : kX8_fractionPart.all (ab_chk RX8 8 (decide (yX8_fractionPart.name = "<init>")) cX8_fractionPart) = true := by decide +kernel
theorem ab_kc_X8_fractionPart : kX8_fractionPart.all (ab_chk RX8 8 (decide (yX8_fractionPart.name = "<init>")) cX8_fractionPart) = true := ab_kc_X8_fractionPart_0
set_option maxRecDepth 100000 in
theorem ab_kc_X8_commonDivisor_0 : kX8_commonDivisor.all (ab_chk RX8 11 (decide (yX8_commonDivisor.name = "<init>")) cX8_commonDivisor) = true := by decide +kernel
theorem ab_kc_X8_commonDivisor : kX8_commonDivisor.all (ab_chk RX8 11 (decide (yX8_commonDivisor.name = "<init>")) cX8_commonDivisor) = true := ab_kc_X8_commonDivisor_0
