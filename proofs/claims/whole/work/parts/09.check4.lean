/-! the printed code is the code: decided by program -/
set_option maxRecDepth 100000 in
theorem ab_kc_X9_puts_0 : kX9_puts.all (ab_chk RX9 6 (decide (yX9_puts.name = "<init>")) cX9_puts) = true := by decide +kernel
theorem ab_kc_X9_puts : kX9_puts.all (ab_chk RX9 6 (decide (yX9_puts.name = "<init>")) cX9_puts) = true := ab_kc_X9_puts_0
set_option maxRecDepth 100000 in
theorem ab_kc_X9_dress_0 : kX9_dress.all (ab_chk RX9 4 (decide (yX9_dress.name = "<init>")) cX9_dress) = true := by decide +kernel
theorem ab_kc_X9_dress : kX9_dress.all (ab_chk RX9 4 (decide (yX9_dress.name = "<init>")) cX9_dress) = true := ab_kc_X9_dress_0
set_option maxRecDepth 100000 in
theorem ab_kc_X9_warm_0 : kX9_warm.all (ab_chk RX9 4 (decide (yX9_warm.name = "<init>")) cX9_warm) = true := by decide +kernel
theorem ab_kc_X9_warm : kX9_warm.all (ab_chk RX9 4 (decide (yX9_warm.name = "<init>")) cX9_warm) = true := ab_kc_X9_warm_0
set_option maxRecDepth 100000 in
theorem ab_kc_X9_set_0 : kX9_set.all (ab_chk RX9 3 (decide (yX9_set.name = "<init>")) cX9_set) = true := by decide +kernel
theorem ab_kc_X9_set : kX9_set.all (ab_chk RX9 3 (decide (yX9_set.name = "<init>")) cX9_set) = true := ab_kc_X9_set_0
set_option maxRecDepth 100000 in
theorem ab_kc_X9_ask_0 : kX9_ask.all (ab_chk RX9 3 (decide (yX9_ask.name = "<init>")) cX9_ask) = true := by decide +kernel
theorem ab_kc_X9_ask : kX9_ask.all (ab_chk RX9 3 (decide (yX9_ask.name = "<init>")) cX9_ask) = true := ab_kc_X9_ask_0
set_option maxRecDepth 100000 in
theorem ab_kc_X9_owe_0 : kX9_owe.all (ab_chk RX9 3 (decide (yX9_owe.name = "<init>")) cX9_owe) = true := by decide +kernel
theorem ab_kc_X9_owe : kX9_owe.all (ab_chk RX9 3 (decide (yX9_owe.name = "<init>")) cX9_owe) = true := ab_kc_X9_owe_0
set_option maxRecDepth 100000 in
theorem ab_kc_X9_halve_0 : kX9_halve_q0.all (ab_chk RX9 3 (decide (yX9_halve.name = "<init>")) cX9_halve) = true := by decide +kernel
set_option maxRecDepth 100000 in
theorem ab_kc_X9_halve_1 : kX9_halve_q1.all (ab_chk RX9 3 (decide (yX9_halve.name = "<init>")) cX9_halve) = true := by decide +kernel
theorem ab_kc_X9_halve : kX9_halve.all (ab_chk RX9 3 (decide (yX9_halve.name = "<init>")) cX9_halve) = true := by
  simp only [kX9_halve, List.all_append, ab_kc_X9_halve_0, ab_kc_X9_halve_1, Bool.and_self]
set_option maxRecDepth 100000 in
theorem ab_kc_X9_minuteOn_0 : kX9_minuteOn.all (ab_chk RX9 5 (decide (yX9_minuteOn.name = "<init>")) cX9_minuteOn) = true := by decide +kernel
theorem ab_kc_X9_minuteOn : kX9_minuteOn.all (ab_chk RX9 5 (decide (yX9_minuteOn.name = "<init>")) cX9_minuteOn) = true := ab_kc_X9_minuteOn_0
set_option maxRecDepth 100000 in
theorem ab_kc_X9_goesOn_0 : kX9_goesOn.all (ab_chk RX9 4 (decide (yX9_goesOn.name = "<init>")) cX9_goesOn) = true := by decide +kernel
theorem ab_kc_X9_goesOn : kX9_goesOn.all (ab_chk RX9 4 (decide (yX9_goesOn.name = "<init>")) cX9_goesOn) = true := ab_kc_X9_goesOn_0
set_option maxRecDepth 100000 in
theorem ab_kc_X9_apart_0 : kX9_apart.all (ab_chk RX9 3 (decide (yX9_apart.name = "<init>")) cX9_apart) = true := by decide +kernel
theorem ab_kc_X9_apart : kX9_apart.all (ab_chk RX9 3 (decide (yX9_apart.name = "<init>")) cX9_apart) = true := ab_kc_X9_apart_0
set_option maxRecDepth 100000 in
theorem ab_kc_X9_wayOn_0 : kX9_wayOn.all (ab_chk RX9 4 (decide (yX9_wayOn.name = "<init>")) cX9_wayOn) = true := by decide +kernel
theorem ab_kc_X9_wayOn : kX9_wayOn.all (ab_chk RX9 4 (decide (yX9_wayOn.name = "<init>")) cX9_wayOn) = true := ab_kc_X9_wayOn_0
set_option maxRecDepth 100000 in
theorem ab_kc_X9_paysOn_0 : kX9_paysOn_q0.all (ab_chk RX9 8 (decide (yX9_paysOn.name = "<init>")) cX9_paysOn) = true := by decide +kernel
set_option maxRecDepth 100000 in
theorem ab_kc_X9_paysOn_1 : kX9_paysOn_q1.all (ab_chk RX9 8 (decide (yX9_paysOn.name = "<init>")) cX9_paysOn) = true := by decide +kernel
theorem ab_kc_X9_paysOn : kX9_paysOn.all (ab_chk RX9 8 (decide (yX9_paysOn.name = "<init>")) cX9_paysOn) = true := by
  simp only [kX9_paysOn, List.all_append, ab_kc_X9_paysOn_0, ab_kc_X9_paysOn_1, Bool.and_self]
set_option maxRecDepth 100000 in
theorem ab_kc_X9_go_0 : kX9_go.all (ab_chk RX9 2 (decide (yX9_go.name = "<init>")) cX9_go) = true := by decide +kernel
theorem ab_kc_X9_go : kX9_go.all (ab_chk RX9 2 (decide (yX9_go.name = "<init>")) cX9_go) = true := ab_kc_X9_go_0
set_option maxRecDepth 100000 in
theorem ab_kc_X9_warmOnes_0 : kX9_warmOnes.all (ab_chk RX9 3 (decide (yX9_warmOnes.name = "<init>")) cX9_warmOnes) = true := by decide +kernel
theorem ab_kc_X9_warmOnes : kX9_warmOnes.all (ab_chk RX9 3 (decide (yX9_warmOnes.name = "<init>")) cX9_warmOnes) = true := ab_kc_X9_warmOnes_0
set_option maxRecDepth 100000 in
theorem ab_kc_X9_paid_0 : kX9_paid.all (ab_chk RX9 3 (decide (yX9_paid.name = "<init>")) cX9_paid) = true := by decide +kernel
theorem ab_kc_X9_paid : kX9_paid.all (ab_chk RX9 3 (decide (yX9_paid.name = "<init>")) cX9_paid) = true := ab_kc_X9_paid_0
set_option maxRecDepth 100000 in
theorem ab_kc_X9_pay_0 : kX9_pay.all (ab_chk RX9 3 (decide (yX9_pay.name = "<init>")) cX9_pay) = true := by decide +kernel
theorem ab_kc_X9_pay : kX9_pay.all (ab_chk RX9 3 (decide (yX9_pay.name = "<init>")) cX9_pay) = true := ab_kc_X9_pay_0
set_option maxRecDepth 100000 in
theorem ab_kc_X9_heatNow_0 : kX9_heatNow.all (ab_chk RX9 1 (decide (yX9_heatNow.name = "<init>")) cX9_heatNow) = true := by decide +kernel
theorem ab_kc_X9_heatNow : kX9_heatNow.all (ab_chk RX9 1 (decide (yX9_heatNow.name = "<init>")) cX9_heatNow) = true := ab_kc_X9_heatNow_0
set_option maxRecDepth 100000 in
theorem ab_kc_X9_ovenWay_0 : kX9_ovenWay.all (ab_chk RX9 2 (decide (yX9_ovenWay.name = "<init>")) cX9_ovenWay) = true := by decide +kernel
theorem ab_kc_X9_ovenWay : kX9_ovenWay.all (ab_chk RX9 2 (decide (yX9_ovenWay.name = "<init>")) cX9_ovenWay) = true := ab_kc_X9_ovenWay_0
set_option maxRecDepth 100000 in
theorem ab_kc_X9_heat_0 : kX9_heat_q0.all (ab_chk RX9 3 (decide (yX9_heat.name = "<init>")) cX9_heat) = true := by decide +kernel
set_option maxRecDepth 100000 in
theorem ab_kc_X9_heat_1 : kX9_heat_q1.all (ab_chk RX9 3 (decide (yX9_heat.name = "<init>")) cX9_heat) = true := by decide +kernel
theorem ab_kc_X9_heat : kX9_heat.all (ab_chk RX9 3 (decide (yX9_heat.name = "<init>")) cX9_heat) = true := by
  simp only [kX9_heat, List.all_append, ab_kc_X9_heat_0, ab_kc_X9_heat_1, Bool.and_self]
set_option maxRecDepth 100000 in
theorem ab_kc_X9_afterOf_0 : kX9_afterOf.all (ab_chk RX9 6 (decide (yX9_afterOf.name = "<init>")) cX9_afterOf) = true := by decide +kernel
theorem ab_kc_X9_afterOf : kX9_afterOf.all (ab_chk RX9 6 (decide (yX9_afterOf.name = "<init>")) cX9_afterOf) = true := ab_kc_X9_afterOf_0
set_option maxRecDepth 100000 in
theorem ab_kc_X9_after_0 : kX9_after.all (ab_chk RX9 3 (decide (yX9_after.name = "<init>")) cX9_after) = true := by decide +kernel
theorem ab_kc_X9_after : kX9_after.all (ab_chk RX9 3 (decide (yX9_after.name = "<init>")) cX9_after) = true := ab_kc_X9_after_0
set_option maxRecDepth 100000 in
theorem ab_kc_X9_cold_0 : kX9_cold.all (ab_chk RX9 4 (decide (yX9_cold.name = "<init>")) cX9_cold) = true := by decide +kernel
theorem ab_kc_X9_cold : kX9_cold.all (ab_chk RX9 4 (decide (yX9_cold.name = "<init>")) cX9_cold) = true := ab_kc_X9_cold_0
set_option maxRecDepth 100000 in
theorem ab_kc_X9_laysHands_0 : kX9_laysHands_q0.all (ab_chk RX9 11 (decide (yX9_laysHands.name = "<init>")) cX9_laysHands) = true := by decide +kernel
set_option maxRecDepth 100000 in
theorem ab_kc_X9_laysHands_1 : kX9_laysHands_q1.all (ab_chk RX9 11 (decide (yX9_laysHands.name = "<init>")) cX9_laysHands) = true := by decide +kernel
theorem ab_kc_X9_laysHands : kX9_laysHands.all (ab_chk RX9 11 (decide (yX9_laysHands.name = "<init>")) cX9_laysHands) = true := by
  simp only [kX9_laysHands, List.all_append, ab_kc_X9_laysHands_0, ab_kc_X9_laysHands_1, Bool.and_self]
set_option maxRecDepth 100000 in
theorem ab_kc_X9_handed_0 : kX9_handed_q0.all (ab_chk RX9 7 (decide (yX9_handed.name = "<init>")) cX9_handed) = true := by decide +kernel
set_option maxRecDepth 100000 in
theorem ab_kc_X9_handed_1 : kX9_handed_q1.all (ab_chk RX9 7 (decide (yX9_handed.name = "<init>")) cX9_handed) = true := by decide +kernel
theorem ab_kc_X9_handed : kX9_handed.all (ab_chk RX9 7 (decide (yX9_handed.name = "<init>")) cX9_handed) = true := by
  simp only [kX9_handed, List.all_append, ab_kc_X9_handed_0, ab_kc_X9_handed_1, Bool.and_self]
set_option maxRecDepth 100000 in
theorem ab_kc_X9_way_0 : kX9_way_q0.all (ab_chk RX9 12 (decide (yX9_way.name = "<init>")) cX9_way) = true := by decide +kernel
set_option maxRecDepth 100000 in
theorem ab_kc_X9_way_1 : kX9_way_q1.all (ab_chk RX9 12 (decide (yX9_way.name = "<init>")) cX9_way) = true := by decide +kernel
set_option maxRecDepth 100000 in
theorem ab_kc_X9_way_2 : kX9_way_q2.all (ab_chk RX9 12 (decide (yX9_way.name = "<init>")) cX9_way) = true := by decide +kernel
theorem ab_kc_X9_way : kX9_way.all (ab_chk RX9 12 (decide (yX9_way.name = "<init>")) cX9_way) = true := by
  simp only [kX9_way, List.all_append, ab_kc_X9_way_0, ab_kc_X9_way_1, ab_kc_X9_way_2, Bool.and_self]
set_option maxRecDepth 100000 in
theorem ab_kc_X9_copies_0 : kX9_copies.all (ab_chk RX9 4 (decide (yX9_copies.name = "<init>")) cX9_copies) = true := by decide +kernel
theorem ab_kc_X9_copies : kX9_copies.all (ab_chk RX9 4 (decide (yX9_copies.name = "<init>")) cX9_copies) = true := ab_kc_X9_copies_0
set_option maxRecDepth 100000 in
theorem ab_kc_X9_laysRow_0 : kX9_laysRow_q0.all (ab_chk RX9 10 (decide (yX9_laysRow.name = "<init>")) cX9_laysRow) = true := by decide +kernel
set_option maxRecDepth 100000 in
theorem ab_kc_X9_laysRow_1 : kX9_laysRow_q1.all (ab_chk RX9 10 (decide (yX9_laysRow.name = "<init>")) cX9_laysRow) = true := by decide +kernel
theorem ab_kc_X9_laysRow : kX9_laysRow.all (ab_chk RX9 10 (decide (yX9_laysRow.name = "<init>")) cX9_laysRow) = true := by
  simp only [kX9_laysRow, List.all_append, ab_kc_X9_laysRow_0, ab_kc_X9_laysRow_1, Bool.and_self]
set_option maxRecDepth 100000 in
theorem ab_kc_X9_fewestFrom_0 : kX9_fewestFrom_q0.all (ab_chk RX9 7 (decide (yX9_fewestFrom.name = "<init>")) cX9_fewestFrom) = true := by decide +kernel
set_option maxRecDepth 100000 in
theorem ab_kc_X9_fewestFrom_1 : kX9_fewestFrom_q1.all (ab_chk RX9 7 (decide (yX9_fewestFrom.name = "<init>")) cX9_fewestFrom) = true := by decide +kernel
theorem ab_kc_X9_fewestFrom : kX9_fewestFrom.all (ab_chk RX9 7 (decide (yX9_fewestFrom.name = "<init>")) cX9_fewestFrom) = true := by
  simp only [kX9_fewestFrom, List.all_append, ab_kc_X9_fewestFrom_0, ab_kc_X9_fewestFrom_1, Bool.and_self]
set_option maxRecDepth 100000 in
theorem ab_kc_X9_fewest_0 : kX9_fewest.all (ab_chk RX9 4 (decide (yX9_fewest.name = "<init>")) cX9_fewest) = true := by decide +kernel
theorem ab_kc_X9_fewest : kX9_fewest.all (ab_chk RX9 4 (decide (yX9_fewest.name = "<init>")) cX9_fewest) = true := ab_kc_X9_fewest_0
set_option maxRecDepth 100000 in
theorem ab_kc_X9_laysOrder_0 : kX9_laysOrder.all (ab_chk RX9 6 (decide (yX9_laysOrder.name = "<init>")) cX9_laysOrder) = true := by decide +kernel
theorem ab_kc_X9_laysOrder : kX9_laysOrder.all (ab_chk RX9 6 (decide (yX9_laysOrder.name = "<init>")) cX9_laysOrder) = true := ab_kc_X9_laysOrder_0
set_option maxRecDepth 100000 in
theorem ab_kc_X9_settled_0 : kX9_settled_q0.all (ab_chk RX9 4 (decide (yX9_settled.name = "<init>")) cX9_settled) = true := by decide +kernel
set_option maxRecDepth 100000 in
theorem ab_kc_X9_settled_1 : kX9_settled_q1.all (ab_chk RX9 4 (decide (yX9_settled.name = "<init>")) cX9_settled) = true := by decide +kernel
theorem ab_kc_X9_settled : kX9_settled.all (ab_chk RX9 4 (decide (yX9_settled.name = "<init>")) cX9_settled) = true := by
  simp only [kX9_settled, List.all_append, ab_kc_X9_settled_0, ab_kc_X9_settled_1, Bool.and_self]
set_option maxRecDepth 100000 in
theorem ab_kc_X9_settle_0 : kX9_settle_q0.all (ab_chk RX9 7 (decide (yX9_settle.name = "<init>")) cX9_settle) = true := by decide +kernel
set_option maxRecDepth 100000 in
theorem ab_kc_X9_settle_1 : kX9_settle_q1.all (ab_chk RX9 7 (decide (yX9_settle.name = "<init>")) cX9_settle) = true := by decide +kernel
theorem ab_kc_X9_settle : kX9_settle.all (ab_chk RX9 7 (decide (yX9_settle.name = "<init>")) cX9_settle) = true := by
  simp only [kX9_settle, List.all_append, ab_kc_X9_settle_0, ab_kc_X9_settle_1, Bool.and_self]
set_option maxRecDepth 100000 in
theorem ab_kc_X9_wool_0 : kX9_wool.all (ab_chk RX9 4 (decide (yX9_wool.name = "<init>")) cX9_wool) = true := by decide +kernel
theorem ab_kc_X9_wool : kX9_wool.all (ab_chk RX9 4 (decide (yX9_wool.name = "<init>")) cX9_wool) = true := ab_kc_X9_wool_0
set_option maxRecDepth 100000 in
theorem ab_kc_X9_reaches_0 : kX9_reaches.all (ab_chk RX9 4 (decide (yX9_reaches.name = "<init>")) cX9_reaches) = true := by decide +kernel
theorem ab_kc_X9_reaches : kX9_reaches.all (ab_chk RX9 4 (decide (yX9_reaches.name = "<init>")) cX9_reaches) = true := ab_kc_X9_reaches_0
set_option maxRecDepth 100000 in
theorem ab_kc_X9_walked_0 : kX9_walked.all (ab_chk RX9 8 (decide (yX9_walked.name = "<init>")) cX9_walked) = true := by decide +kernel
theorem ab_kc_X9_walked : kX9_walked.all (ab_chk RX9 8 (decide (yX9_walked.name = "<init>")) cX9_walked) = true := ab_kc_X9_walked_0
set_option maxRecDepth 100000 in
theorem ab_kc_X9_walks_0 : kX9_walks_q0.all (ab_chk RX9 10 (decide (yX9_walks.name = "<init>")) cX9_walks) = true := by decide +kernel
set_option maxRecDepth 100000 in
theorem ab_kc_X9_walks_1 : kX9_walks_q1.all (ab_chk RX9 10 (decide (yX9_walks.name = "<init>")) cX9_walks) = true := by decide +kernel
set_option maxRecDepth 100000 in
theorem ab_kc_X9_walks_2 : kX9_walks_q2.all (ab_chk RX9 10 (decide (yX9_walks.name = "<init>")) cX9_walks) = true := by decide +kernel
theorem ab_kc_X9_walks : kX9_walks.all (ab_chk RX9 10 (decide (yX9_walks.name = "<init>")) cX9_walks) = true := by
  simp only [kX9_walks, List.all_append, ab_kc_X9_walks_0, ab_kc_X9_walks_1, ab_kc_X9_walks_2, Bool.and_self]
set_option maxRecDepth 100000 in
theorem ab_kc_X9_bought_0 : kX9_bought.all (ab_chk RX9 3 (decide (yX9_bought.name = "<init>")) cX9_bought) = true := by decide +kernel
theorem ab_kc_X9_bought : kX9_bought.all (ab_chk RX9 3 (decide (yX9_bought.name = "<init>")) cX9_bought) = true := ab_kc_X9_bought_0
set_option maxRecDepth 100000 in
theorem ab_kc_X9_buys_0 : kX9_buys.all (ab_chk RX9 7 (decide (yX9_buys.name = "<init>")) cX9_buys) = true := by decide +kernel
theorem ab_kc_X9_buys : kX9_buys.all (ab_chk RX9 7 (decide (yX9_buys.name = "<init>")) cX9_buys) = true := ab_kc_X9_buys_0
set_option maxRecDepth 100000 in
theorem ab_kc_X9_lowest_0 : kX9_lowest.all (ab_chk RX9 11 (decide (yX9_lowest.name = "<init>")) cX9_lowest) = true := by decide +kernel
theorem ab_kc_X9_lowest : kX9_lowest.all (ab_chk RX9 11 (decide (yX9_lowest.name = "<init>")) cX9_lowest) = true := ab_kc_X9_lowest_0
set_option maxRecDepth 100000 in
theorem ab_kc_X9_windy_0 : kX9_windy.all (ab_chk RX9 3 (decide (yX9_windy.name = "<init>")) cX9_windy) = true := by decide +kernel
theorem ab_kc_X9_windy : kX9_windy.all (ab_chk RX9 3 (decide (yX9_windy.name = "<init>")) cX9_windy) = true := ab_kc_X9_windy_0
set_option maxRecDepth 100000 in
theorem ab_okc_4 : ∀ mi ∈ ab_mt_4, mi.2.2.2.2.2.2.all (ab_chk mi.1 mi.2.2.2.1 (decide (mi.2.1.name = "<init>")) mi.2.2.1) = true := List.forall_mem_cons.mpr ⟨ab_kc_X9_puts, List.forall_mem_cons.mpr ⟨ab_kc_X9_dress, List.forall_mem_cons.mpr ⟨ab_kc_X9_warm, List.forall_mem_cons.mpr ⟨ab_kc_X9_set, List.forall_mem_cons.mpr ⟨ab_kc_X9_ask, List.forall_mem_cons.mpr ⟨ab_kc_X9_owe, List.forall_mem_cons.mpr ⟨ab_kc_X9_halve, List.forall_mem_cons.mpr ⟨ab_kc_X9_minuteOn, List.forall_mem_cons.mpr ⟨ab_kc_X9_goesOn, List.forall_mem_cons.mpr ⟨ab_kc_X9_apart, List.forall_mem_cons.mpr ⟨ab_kc_X9_wayOn, List.forall_mem_cons.mpr ⟨ab_kc_X9_paysOn, List.forall_mem_cons.mpr ⟨ab_kc_X9_go, List.forall_mem_cons.mpr ⟨ab_kc_X9_warmOnes, List.forall_mem_cons.mpr ⟨ab_kc_X9_paid, List.forall_mem_cons.mpr ⟨ab_kc_X9_pay, List.forall_mem_cons.mpr ⟨ab_kc_X9_heatNow, List.forall_mem_cons.mpr ⟨ab_kc_X9_ovenWay, List.forall_mem_cons.mpr ⟨ab_kc_X9_heat, List.forall_mem_cons.mpr ⟨ab_kc_X9_afterOf, List.forall_mem_cons.mpr ⟨ab_kc_X9_after, List.forall_mem_cons.mpr ⟨ab_kc_X9_cold, List.forall_mem_cons.mpr ⟨ab_kc_X9_laysHands, List.forall_mem_cons.mpr ⟨ab_kc_X9_handed, List.forall_mem_cons.mpr ⟨ab_kc_X9_way, List.forall_mem_cons.mpr ⟨ab_kc_X9_copies, List.forall_mem_cons.mpr ⟨ab_kc_X9_laysRow, List.forall_mem_cons.mpr ⟨ab_kc_X9_fewestFrom, List.forall_mem_cons.mpr ⟨ab_kc_X9_fewest, List.forall_mem_cons.mpr ⟨ab_kc_X9_laysOrder, List.forall_mem_cons.mpr ⟨ab_kc_X9_settled, List.forall_mem_cons.mpr ⟨ab_kc_X9_settle, List.forall_mem_cons.mpr ⟨ab_kc_X9_wool, List.forall_mem_cons.mpr ⟨ab_kc_X9_reaches, List.forall_mem_cons.mpr ⟨ab_kc_X9_walked, List.forall_mem_cons.mpr ⟨ab_kc_X9_walks, List.forall_mem_cons.mpr ⟨ab_kc_X9_bought, List.forall_mem_cons.mpr ⟨ab_kc_X9_buys, List.forall_mem_cons.mpr ⟨ab_kc_X9_lowest, List.forall_mem_cons.mpr ⟨ab_kc_X9_windy, fun _ h => absurd h List.not_mem_nil⟩⟩⟩⟩⟩⟩⟩⟩⟩⟩⟩⟩⟩⟩⟩⟩⟩⟩⟩⟩⟩⟩⟩⟩⟩⟩⟩⟩⟩⟩⟩⟩⟩⟩⟩⟩⟩⟩⟩⟩
set_option maxRecDepth 100000 in
theorem ab_ok_4 : (ab_mt_4.zip ab_hn_4).all (fun x => ab_okm x.1 x.2) = true := by decide +kernel
theorem ab_okl_4 : ab_mt_4.length = ab_hn_4.length := by decide +kernel
