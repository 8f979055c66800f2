/-! the printed code is the code: decided by program -/
set_option maxRecDepth 100000 in
theorem ab_kw_X9_puts : Cond.code yX9_puts cX9_puts 6 (some .int) ∈ ab_gt := List.mem_filter.mpr ⟨List.mem_of_getElem? (i := 1278) rfl, rfl⟩
set_option maxRecDepth 100000 in
theorem ab_kw_X9_dress : Cond.code yX9_dress cX9_dress 4 (some .int) ∈ ab_gt := List.mem_filter.mpr ⟨List.mem_of_getElem? (i := 1274) rfl, rfl⟩
set_option maxRecDepth 100000 in
theorem ab_kw_X9_warm : Cond.code yX9_warm cX9_warm 4 (some .int) ∈ ab_gt := List.mem_filter.mpr ⟨List.mem_of_getElem? (i := 1283) rfl, rfl⟩
set_option maxRecDepth 100000 in
theorem ab_kw_X9_set : Cond.code yX9_set cX9_set 3 (some .int) ∈ ab_gt := List.mem_filter.mpr ⟨List.mem_of_getElem? (i := 1289) rfl, rfl⟩
set_option maxRecDepth 100000 in
theorem ab_kw_X9_ask : Cond.code yX9_ask cX9_ask 3 (some .int) ∈ ab_gt := List.mem_filter.mpr ⟨List.mem_of_getElem? (i := 1294) rfl, rfl⟩
set_option maxRecDepth 100000 in
theorem ab_kw_X9_owe : Cond.code yX9_owe cX9_owe 3 (some .int) ∈ ab_gt := List.mem_filter.mpr ⟨List.mem_of_getElem? (i := 1298) rfl, rfl⟩
set_option maxRecDepth 100000 in
theorem ab_kw_X9_halve : Cond.code yX9_halve cX9_halve 3 (some .int) ∈ ab_gt := List.mem_filter.mpr ⟨List.mem_of_getElem? (i := 1302) rfl, rfl⟩
set_option maxRecDepth 100000 in
theorem ab_kw_X9_minuteOn : Cond.code yX9_minuteOn cX9_minuteOn 5 none ∈ ab_gt := List.mem_filter.mpr ⟨List.mem_of_getElem? (i := 1315) rfl, rfl⟩
set_option maxRecDepth 100000 in
theorem ab_kw_X9_goesOn : Cond.code yX9_goesOn cX9_goesOn 4 none ∈ ab_gt := List.mem_filter.mpr ⟨List.mem_of_getElem? (i := 1311) rfl, rfl⟩
set_option maxRecDepth 100000 in
theorem ab_kw_X9_apart : Cond.code yX9_apart cX9_apart 3 (some .int) ∈ ab_gt := List.mem_filter.mpr ⟨List.mem_of_getElem? (i := 1338) rfl, rfl⟩
set_option maxRecDepth 100000 in
theorem ab_kw_X9_wayOn : Cond.code yX9_wayOn cX9_wayOn 4 (some .int) ∈ ab_gt := List.mem_filter.mpr ⟨List.mem_of_getElem? (i := 1334) rfl, rfl⟩
set_option maxRecDepth 100000 in
theorem ab_kw_X9_paysOn : Cond.code yX9_paysOn cX9_paysOn 8 (some .int) ∈ ab_gt := List.mem_filter.mpr ⟨List.mem_of_getElem? (i := 1342) rfl, rfl⟩
set_option maxRecDepth 100000 in
theorem ab_kw_X9_go : Cond.code yX9_go cX9_go 2 (some .int) ∈ ab_gt := List.mem_filter.mpr ⟨List.mem_of_getElem? (i := 1306) rfl, rfl⟩
set_option maxRecDepth 100000 in
theorem ab_kw_X9_warmOnes : Cond.code yX9_warmOnes cX9_warmOnes 3 (some .int) ∈ ab_gt := List.mem_filter.mpr ⟨List.mem_of_getElem? (i := 1322) rfl, rfl⟩
set_option maxRecDepth 100000 in
theorem ab_kw_X9_paid : Cond.code yX9_paid cX9_paid 3 (some .int) ∈ ab_gt := List.mem_filter.mpr ⟨List.mem_of_getElem? (i := 1330) rfl, rfl⟩
set_option maxRecDepth 100000 in
theorem ab_kw_X9_pay : Cond.code yX9_pay cX9_pay 3 (some .int) ∈ ab_gt := List.mem_filter.mpr ⟨List.mem_of_getElem? (i := 1326) rfl, rfl⟩
set_option maxRecDepth 100000 in
theorem ab_kw_X9_heatNow : Cond.code yX9_heatNow cX9_heatNow 1 (some .int) ∈ ab_gt := List.mem_filter.mpr ⟨List.mem_of_getElem? (i := 1354) rfl, rfl⟩
set_option maxRecDepth 100000 in
theorem ab_kw_X9_ovenWay : Cond.code yX9_ovenWay cX9_ovenWay 2 (some .int) ∈ ab_gt := List.mem_filter.mpr ⟨List.mem_of_getElem? (i := 1350) rfl, rfl⟩
set_option maxRecDepth 100000 in
theorem ab_kw_X9_heat : Cond.code yX9_heat cX9_heat 3 (some .int) ∈ ab_gt := List.mem_filter.mpr ⟨List.mem_of_getElem? (i := 1346) rfl, rfl⟩
set_option maxRecDepth 100000 in
theorem ab_kw_X9_afterOf : Cond.code yX9_afterOf cX9_afterOf 6 (some .int) ∈ ab_gt := List.mem_filter.mpr ⟨List.mem_of_getElem? (i := 1362) rfl, rfl⟩
set_option maxRecDepth 100000 in
theorem ab_kw_X9_after : Cond.code yX9_after cX9_after 3 (some .int) ∈ ab_gt := List.mem_filter.mpr ⟨List.mem_of_getElem? (i := 1358) rfl, rfl⟩
set_option maxRecDepth 100000 in
theorem ab_kw_X9_cold : Cond.code yX9_cold cX9_cold 4 (some .int) ∈ ab_gt := List.mem_filter.mpr ⟨List.mem_of_getElem? (i := 1366) rfl, rfl⟩
set_option maxRecDepth 100000 in
theorem ab_kw_X9_laysHands : Cond.code yX9_laysHands cX9_laysHands 11 (some .int) ∈ ab_gt := List.mem_filter.mpr ⟨List.mem_of_getElem? (i := 1375) rfl, rfl⟩
set_option maxRecDepth 100000 in
theorem ab_kw_X9_handed : Cond.code yX9_handed cX9_handed 7 (some .int) ∈ ab_gt := List.mem_filter.mpr ⟨List.mem_of_getElem? (i := 1379) rfl, rfl⟩
set_option maxRecDepth 100000 in
theorem ab_kw_X9_way : Cond.code yX9_way cX9_way 12 (some .int) ∈ ab_gt := List.mem_filter.mpr ⟨List.mem_of_getElem? (i := 1370) rfl, rfl⟩
set_option maxRecDepth 100000 in
theorem ab_kw_X9_copies : Cond.code yX9_copies cX9_copies 4 none ∈ ab_gt := List.mem_filter.mpr ⟨List.mem_of_getElem? (i := 1396) rfl, rfl⟩
set_option maxRecDepth 100000 in
theorem ab_kw_X9_laysRow : Cond.code yX9_laysRow cX9_laysRow 10 (some .boolean) ∈ ab_gt := List.mem_filter.mpr ⟨List.mem_of_getElem? (i := 1392) rfl, rfl⟩
set_option maxRecDepth 100000 in
theorem ab_kw_X9_fewestFrom : Cond.code yX9_fewestFrom cX9_fewestFrom 7 (some .int) ∈ ab_gt := List.mem_filter.mpr ⟨List.mem_of_getElem? (i := 1388) rfl, rfl⟩
set_option maxRecDepth 100000 in
theorem ab_kw_X9_fewest : Cond.code yX9_fewest cX9_fewest 4 (some .int) ∈ ab_gt := List.mem_filter.mpr ⟨List.mem_of_getElem? (i := 1383) rfl, rfl⟩
set_option maxRecDepth 100000 in
theorem ab_kw_X9_laysOrder : Cond.code yX9_laysOrder cX9_laysOrder 6 (some .boolean) ∈ ab_gt := List.mem_filter.mpr ⟨List.mem_of_getElem? (i := 1404) rfl, rfl⟩
set_option maxRecDepth 100000 in
theorem ab_kw_X9_settled : Cond.code yX9_settled cX9_settled 4 (some .int) ∈ ab_gt := List.mem_filter.mpr ⟨List.mem_of_getElem? (i := 1408) rfl, rfl⟩
set_option maxRecDepth 100000 in
theorem ab_kw_X9_settle : Cond.code yX9_settle cX9_settle 7 (some .int) ∈ ab_gt := List.mem_filter.mpr ⟨List.mem_of_getElem? (i := 1400) rfl, rfl⟩
set_option maxRecDepth 100000 in
theorem ab_kw_X9_wool : Cond.code yX9_wool cX9_wool 4 (some .int) ∈ ab_gt := List.mem_filter.mpr ⟨List.mem_of_getElem? (i := 1412) rfl, rfl⟩
set_option maxRecDepth 100000 in
theorem ab_kw_X9_reaches : Cond.code yX9_reaches cX9_reaches 4 none ∈ ab_gt := List.mem_filter.mpr ⟨List.mem_of_getElem? (i := 1420) rfl, rfl⟩
set_option maxRecDepth 100000 in
theorem ab_kw_X9_walked : Cond.code yX9_walked cX9_walked 8 (some .int) ∈ ab_gt := List.mem_filter.mpr ⟨List.mem_of_getElem? (i := 1424) rfl, rfl⟩
set_option maxRecDepth 100000 in
theorem ab_kw_X9_walks : Cond.code yX9_walks cX9_walks 10 (some .int) ∈ ab_gt := List.mem_filter.mpr ⟨List.mem_of_getElem? (i := 1416) rfl, rfl⟩
set_option maxRecDepth 100000 in
theorem ab_kw_X9_bought : Cond.code yX9_bought cX9_bought 3 (some .int) ∈ ab_gt := List.mem_filter.mpr ⟨List.mem_of_getElem? (i := 1432) rfl, rfl⟩
set_option maxRecDepth 100000 in
theorem ab_kw_X9_buys : Cond.code yX9_buys cX9_buys 7 (some .int) ∈ ab_gt := List.mem_filter.mpr ⟨List.mem_of_getElem? (i := 1428) rfl, rfl⟩
set_option maxRecDepth 100000 in
theorem ab_kw_X9_lowest : Cond.code yX9_lowest cX9_lowest 11 (some .long) ∈ ab_gt := List.mem_filter.mpr ⟨List.mem_of_getElem? (i := 1447) rfl, rfl⟩
set_option maxRecDepth 100000 in
theorem ab_kw_X9_windy : Cond.code yX9_windy cX9_windy 3 (some .int) ∈ ab_gt := List.mem_filter.mpr ⟨List.mem_of_getElem? (i := 1444) rfl, rfl⟩
set_option maxRecDepth 100000 in
theorem ab_okw_4 : ∀ mi ∈ ab_mt_4, Cond.code mi.2.1 mi.2.2.1 mi.2.2.2.1 mi.2.2.2.2.1 ∈ ab_gt := List.forall_mem_cons.mpr ⟨ab_kw_X9_puts, List.forall_mem_cons.mpr ⟨ab_kw_X9_dress, List.forall_mem_cons.mpr ⟨ab_kw_X9_warm, List.forall_mem_cons.mpr ⟨ab_kw_X9_set, List.forall_mem_cons.mpr ⟨ab_kw_X9_ask, List.forall_mem_cons.mpr ⟨ab_kw_X9_owe, List.forall_mem_cons.mpr ⟨ab_kw_X9_halve, List.forall_mem_cons.mpr ⟨ab_kw_X9_minuteOn, List.forall_mem_cons.mpr ⟨ab_kw_X9_goesOn, List.forall_mem_cons.mpr ⟨ab_kw_X9_apart, List.forall_mem_cons.mpr ⟨ab_kw_X9_wayOn, List.forall_mem_cons.mpr ⟨ab_kw_X9_paysOn, List.forall_mem_cons.mpr ⟨ab_kw_X9_go, List.forall_mem_cons.mpr ⟨ab_kw_X9_warmOnes, List.forall_mem_cons.mpr ⟨ab_kw_X9_paid, List.forall_mem_cons.mpr ⟨ab_kw_X9_pay, List.forall_mem_cons.mpr ⟨ab_kw_X9_heatNow, List.forall_mem_cons.mpr ⟨ab_kw_X9_ovenWay, List.forall_mem_cons.mpr ⟨ab_kw_X9_heat, List.forall_mem_cons.mpr ⟨ab_kw_X9_afterOf, List.forall_mem_cons.mpr ⟨ab_kw_X9_after, List.forall_mem_cons.mpr ⟨ab_kw_X9_cold, List.forall_mem_cons.mpr ⟨ab_kw_X9_laysHands, List.forall_mem_cons.mpr ⟨ab_kw_X9_handed, List.forall_mem_cons.mpr ⟨ab_kw_X9_way, List.forall_mem_cons.mpr ⟨ab_kw_X9_copies, List.forall_mem_cons.mpr ⟨ab_kw_X9_laysRow, List.forall_mem_cons.mpr ⟨ab_kw_X9_fewestFrom, List.forall_mem_cons.mpr ⟨ab_kw_X9_fewest, List.forall_mem_cons.mpr ⟨ab_kw_X9_laysOrder, List.forall_mem_cons.mpr ⟨ab_kw_X9_settled, List.forall_mem_cons.mpr ⟨ab_kw_X9_settle, List.forall_mem_cons.mpr ⟨ab_kw_X9_wool, List.forall_mem_cons.mpr ⟨ab_kw_X9_reaches, List.forall_mem_cons.mpr ⟨ab_kw_X9_walked, List.forall_mem_cons.mpr ⟨ab_kw_X9_walks, List.forall_mem_cons.mpr ⟨ab_kw_X9_bought, List.forall_mem_cons.mpr ⟨ab_kw_X9_buys, List.forall_mem_cons.mpr ⟨ab_kw_X9_lowest, List.forall_mem_cons.mpr ⟨ab_kw_X9_windy, fun _ h => absurd h List.not_mem_nil⟩⟩⟩⟩⟩⟩⟩⟩⟩⟩⟩⟩⟩⟩⟩⟩⟩⟩⟩⟩⟩⟩⟩⟩⟩⟩⟩⟩⟩⟩⟩⟩⟩⟩⟩⟩⟩⟩⟩⟩
