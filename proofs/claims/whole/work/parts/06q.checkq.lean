/-! the printed code is the code: decided by program -/
set_option maxRecDepth 100000 in
theorem ab_kw_X8_isLane : Cond.code yX8_isLane cX8_isLane 1 (some .boolean) ∈ ab_gt := List.mem_filter.mpr ⟨List.mem_of_getElem? (i := 991) rfl, rfl⟩
set_option maxRecDepth 100000 in
theorem ab_kw_X8_exchange : Cond.code yX8_exchange cX8_exchange 4 (some .int) ∈ ab_gt := List.mem_filter.mpr ⟨List.mem_of_getElem? (i := 687) rfl, rfl⟩
set_option maxRecDepth 100000 in
theorem ab_kw_X8_nextSeed : Cond.code yX8_nextSeed cX8_nextSeed 1 (some .int) ∈ ab_gt := List.mem_filter.mpr ⟨List.mem_of_getElem? (i := 969) rfl, rfl⟩
set_option maxRecDepth 100000 in
theorem ab_kw_X8_seedBits : Cond.code yX8_seedBits cX8_seedBits 1 (some .int) ∈ ab_gt := List.mem_filter.mpr ⟨List.mem_of_getElem? (i := 973) rfl, rfl⟩
set_option maxRecDepth 100000 in
theorem ab_kw_X8_isWarm : Cond.code yX8_isWarm cX8_isWarm 1 (some .boolean) ∈ ab_gt := List.mem_filter.mpr ⟨List.mem_of_getElem? (i := 668) rfl, rfl⟩
set_option maxRecDepth 100000 in
theorem ab_kw_X8_rate : Cond.code yX8_rate cX8_rate 2 (some .int) ∈ ab_gt := List.mem_filter.mpr ⟨List.mem_of_getElem? (i := 660) rfl, rfl⟩
set_option maxRecDepth 100000 in
theorem ab_kw_X8_cooled : Cond.code yX8_cooled cX8_cooled 2 (some .int) ∈ ab_gt := List.mem_filter.mpr ⟨List.mem_of_getElem? (i := 723) rfl, rfl⟩
set_option maxRecDepth 100000 in
theorem ab_kw_X8_cooledFor : Cond.code yX8_cooledFor cX8_cooledFor 5 (some .int) ∈ ab_gt := List.mem_filter.mpr ⟨List.mem_of_getElem? (i := 720) rfl, rfl⟩
set_option maxRecDepth 100000 in
theorem ab_kw_X8_weightOfWarm : Cond.code yX8_weightOfWarm cX8_weightOfWarm 6 (some .long) ∈ ab_gt := List.mem_filter.mpr ⟨List.mem_of_getElem? (i := 908) rfl, rfl⟩
set_option maxRecDepth 100000 in
theorem ab_kw_X8_weightOfWarmth : Cond.code yX8_weightOfWarmth cX8_weightOfWarmth 6 (some .long) ∈ ab_gt := List.mem_filter.mpr ⟨List.mem_of_getElem? (i := 926) rfl, rfl⟩
set_option maxRecDepth 100000 in
theorem ab_kw_X8_weightBought : Cond.code yX8_weightBought cX8_weightBought 6 (some .long) ∈ ab_gt := List.mem_filter.mpr ⟨List.mem_of_getElem? (i := 936) rfl, rfl⟩
set_option maxRecDepth 100000 in
theorem ab_kw_X8_weightBoughtLater : Cond.code yX8_weightBoughtLater cX8_weightBoughtLater 6 (some .long) ∈ ab_gt := List.mem_filter.mpr ⟨List.mem_of_getElem? (i := 933) rfl, rfl⟩
set_option maxRecDepth 100000 in
theorem ab_kw_X8_fractionPart : Cond.code yX8_fractionPart cX8_fractionPart 8 (some .long) ∈ ab_gt := List.mem_filter.mpr ⟨List.mem_of_getElem? (i := 911) rfl, rfl⟩
set_option maxRecDepth 100000 in
theorem ab_kw_X8_commonDivisor : Cond.code yX8_commonDivisor cX8_commonDivisor 11 (some .long) ∈ ab_gt := List.mem_filter.mpr ⟨List.mem_of_getElem? (i := 916) rfl, rfl⟩
set_option maxRecDepth 100000 in
theorem ab_kw_X9_init : Cond.code yX9_init cX9_init 1 none ∈ ab_gt := List.mem_filter.mpr ⟨List.mem_of_getElem? (i := 1043) rfl, rfl⟩
set_option maxRecDepth 100000 in
theorem ab_kw_X9_in : Cond.code yX9_in cX9_in 6 (some .boolean) ∈ ab_gt := List.mem_filter.mpr ⟨List.mem_of_getElem? (i := 1174) rfl, rfl⟩
set_option maxRecDepth 100000 in
theorem ab_kw_X9_feed : Cond.code yX9_feed cX9_feed 2 (some .int) ∈ ab_gt := List.mem_filter.mpr ⟨List.mem_of_getElem? (i := 1170) rfl, rfl⟩
set_option maxRecDepth 100000 in
theorem ab_kw_X9_end : Cond.code yX9_end cX9_end 3 (some .int) ∈ ab_gt := List.mem_filter.mpr ⟨List.mem_of_getElem? (i := 1178) rfl, rfl⟩
set_option maxRecDepth 100000 in
theorem ab_kw_X9_byteAt : Cond.code yX9_byteAt cX9_byteAt 2 (some .int) ∈ ab_gt := List.mem_filter.mpr ⟨List.mem_of_getElem? (i := 1190) rfl, rfl⟩
set_option maxRecDepth 100000 in
theorem ab_kw_X9_fails : Cond.code yX9_fails cX9_fails 2 none ∈ ab_gt := List.mem_filter.mpr ⟨List.mem_of_getElem? (i := 1198) rfl, rfl⟩
set_option maxRecDepth 100000 in
theorem ab_kw_X9_nameHere : Cond.code yX9_nameHere cX9_nameHere 4 (some .int) ∈ ab_gt := List.mem_filter.mpr ⟨List.mem_of_getElem? (i := 1206) rfl, rfl⟩
set_option maxRecDepth 100000 in
theorem ab_kw_X9_step : Cond.code yX9_step cX9_step 2 none ∈ ab_gt := List.mem_filter.mpr ⟨List.mem_of_getElem? (i := 1186) rfl, rfl⟩
set_option maxRecDepth 100000 in
theorem ab_kw_X9_number : Cond.code yX9_number cX9_number 4 (some .int) ∈ ab_gt := List.mem_filter.mpr ⟨List.mem_of_getElem? (i := 1217) rfl, rfl⟩
set_option maxRecDepth 100000 in
theorem ab_kw_X9_oneHere : Cond.code yX9_oneHere cX9_oneHere 2 (some .int) ∈ ab_gt := List.mem_filter.mpr ⟨List.mem_of_getElem? (i := 1221) rfl, rfl⟩
set_option maxRecDepth 100000 in
theorem ab_kw_X9_readDebt : Cond.code yX9_readDebt cX9_readDebt 2 none ∈ ab_gt := List.mem_filter.mpr ⟨List.mem_of_getElem? (i := 1225) rfl, rfl⟩
set_option maxRecDepth 100000 in
theorem ab_kw_X9_readMore : Cond.code yX9_readMore cX9_readMore 3 none ∈ ab_gt := List.mem_filter.mpr ⟨List.mem_of_getElem? (i := 1213) rfl, rfl⟩
set_option maxRecDepth 100000 in
theorem ab_kw_X9_readLine : Cond.code yX9_readLine cX9_readLine 2 none ∈ ab_gt := List.mem_filter.mpr ⟨List.mem_of_getElem? (i := 1202) rfl, rfl⟩
set_option maxRecDepth 100000 in
theorem ab_kw_X9_text : Cond.code yX9_text cX9_text 3 (some .int) ∈ ab_gt := List.mem_filter.mpr ⟨List.mem_of_getElem? (i := 1182) rfl, rfl⟩
set_option maxRecDepth 100000 in
theorem ab_kw_X9_fault : Cond.code yX9_fault cX9_fault 1 (some .int) ∈ ab_gt := List.mem_filter.mpr ⟨List.mem_of_getElem? (i := 1230) rfl, rfl⟩
set_option maxRecDepth 100000 in
theorem ab_kw_X9_isOne : Cond.code yX9_isOne cX9_isOne 2 (some .boolean) ∈ ab_gt := List.mem_filter.mpr ⟨List.mem_of_getElem? (i := 1242) rfl, rfl⟩
set_option maxRecDepth 100000 in
theorem ab_kw_X9_isStone : Cond.code yX9_isStone cX9_isStone 2 (some .boolean) ∈ ab_gt := List.mem_filter.mpr ⟨List.mem_of_getElem? (i := 1250) rfl, rfl⟩
set_option maxRecDepth 100000 in
theorem ab_kw_X9_isDebt : Cond.code yX9_isDebt cX9_isDebt 2 (some .boolean) ∈ ab_gt := List.mem_filter.mpr ⟨List.mem_of_getElem? (i := 1265) rfl, rfl⟩
set_option maxRecDepth 100000 in
theorem ab_kw_X9_rule : Cond.code yX9_rule cX9_rule 2 (some .int) ∈ ab_gt := List.mem_filter.mpr ⟨List.mem_of_getElem? (i := 1234) rfl, rfl⟩
set_option maxRecDepth 100000 in
theorem ab_kw_X9_rateOf : Cond.code yX9_rateOf cX9_rateOf 2 (some .int) ∈ ab_gt := List.mem_filter.mpr ⟨List.mem_of_getElem? (i := 1257) rfl, rfl⟩
set_option maxRecDepth 100000 in
theorem ab_kw_X9_rateOn : Cond.code yX9_rateOn cX9_rateOn 3 (some .int) ∈ ab_gt := List.mem_filter.mpr ⟨List.mem_of_getElem? (i := 1254) rfl, rfl⟩
set_option maxRecDepth 100000 in
theorem ab_kw_X9_cooled : Cond.code yX9_cooled cX9_cooled 3 (some .int) ∈ ab_gt := List.mem_filter.mpr ⟨List.mem_of_getElem? (i := 1318) rfl, rfl⟩
set_option maxRecDepth 100000 in
theorem ab_kw_X9_one : Cond.code yX9_one cX9_one 6 (some .int) ∈ ab_gt := List.mem_filter.mpr ⟨List.mem_of_getElem? (i := 1238) rfl, rfl⟩
set_option maxRecDepth 100000 in
theorem ab_kw_X9_stone : Cond.code yX9_stone cX9_stone 3 (some .int) ∈ ab_gt := List.mem_filter.mpr ⟨List.mem_of_getElem? (i := 1246) rfl, rfl⟩
set_option maxRecDepth 100000 in
theorem ab_kw_X9_debt : Cond.code yX9_debt cX9_debt 3 (some .int) ∈ ab_gt := List.mem_filter.mpr ⟨List.mem_of_getElem? (i := 1261) rfl, rfl⟩
set_option maxRecDepth 100000 in
theorem ab_kw_X9_price : Cond.code yX9_price cX9_price 2 (some .int) ∈ ab_gt := List.mem_filter.mpr ⟨List.mem_of_getElem? (i := 1270) rfl, rfl⟩
set_option maxRecDepth 100000 in
theorem ab_okw_3 : ∀ mi ∈ ab_mt_3, Cond.code mi.2.1 mi.2.2.1 mi.2.2.2.1 mi.2.2.2.2.1 ∈ ab_gt := List.forall_mem_cons.mpr ⟨ab_kw_X8_isLane, List.forall_mem_cons.mpr ⟨ab_kw_X8_exchange, List.forall_mem_cons.mpr ⟨ab_kw_X8_nextSeed, List.forall_mem_cons.mpr ⟨ab_kw_X8_seedBits, List.forall_mem_cons.mpr ⟨ab_kw_X8_isWarm, List.forall_mem_cons.mpr ⟨ab_kw_X8_rate, List.forall_mem_cons.mpr ⟨ab_kw_X8_cooled, List.forall_mem_cons.mpr ⟨ab_kw_X8_cooledFor, List.forall_mem_cons.mpr ⟨ab_kw_X8_weightOfWarm, List.forall_mem_cons.mpr ⟨ab_kw_X8_weightOfWarmth, List.forall_mem_cons.mpr ⟨ab_kw_X8_weightBought, List.forall_mem_cons.mpr ⟨ab_kw_X8_weightBoughtLater, List.forall_mem_cons.mpr ⟨ab_kw_X8_fractionPart, List.forall_mem_cons.mpr ⟨ab_kw_X8_commonDivisor, List.forall_mem_cons.mpr ⟨ab_kw_X9_init, List.forall_mem_cons.mpr ⟨ab_kw_X9_in, List.forall_mem_cons.mpr ⟨ab_kw_X9_feed, List.forall_mem_cons.mpr ⟨ab_kw_X9_end, List.forall_mem_cons.mpr ⟨ab_kw_X9_byteAt, List.forall_mem_cons.mpr ⟨ab_kw_X9_fails, List.forall_mem_cons.mpr ⟨ab_kw_X9_nameHere, List.forall_mem_cons.mpr ⟨ab_kw_X9_step, List.forall_mem_cons.mpr ⟨ab_kw_X9_number, List.forall_mem_cons.mpr ⟨ab_kw_X9_oneHere, List.forall_mem_cons.mpr ⟨ab_kw_X9_readDebt, List.forall_mem_cons.mpr ⟨ab_kw_X9_readMore, List.forall_mem_cons.mpr ⟨ab_kw_X9_readLine, List.forall_mem_cons.mpr ⟨ab_kw_X9_text, List.forall_mem_cons.mpr ⟨ab_kw_X9_fault, List.forall_mem_cons.mpr ⟨ab_kw_X9_isOne, List.forall_mem_cons.mpr ⟨ab_kw_X9_isStone, List.forall_mem_cons.mpr ⟨ab_kw_X9_isDebt, List.forall_mem_cons.mpr ⟨ab_kw_X9_rule, List.forall_mem_cons.mpr ⟨ab_kw_X9_rateOf, List.forall_mem_cons.mpr ⟨ab_kw_X9_rateOn, List.forall_mem_cons.mpr ⟨ab_kw_X9_cooled, List.forall_mem_cons.mpr ⟨ab_kw_X9_one, List.forall_mem_cons.mpr ⟨ab_kw_X9_stone, List.forall_mem_cons.mpr ⟨ab_kw_X9_debt, List.forall_mem_cons.mpr ⟨ab_kw_X9_price, fun _ h => absurd h List.not_mem_nil⟩⟩⟩⟩⟩⟩⟩⟩⟩⟩⟩⟩⟩⟩⟩⟩⟩⟩⟩⟩⟩⟩⟩⟩⟩⟩⟩⟩⟩⟩⟩⟩⟩⟩⟩⟩⟩⟩⟩⟩
