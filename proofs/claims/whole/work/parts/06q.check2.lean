/-! the printed code is the code: decided by program -/
set_option maxRecDepth 100000 in
theorem ab_kc_X8_text_0 : kX8_text.all (ab_chk RX8 3 (decide (yX8_text.name = "<init>")) cX8_text) = true := by decide +kernel
theorem ab_kc_X8_text : kX8_text.all (ab_chk RX8 3 (decide (yX8_text.name = "<init>")) cX8_text) = true := ab_kc_X8_text_0
set_option maxRecDepth 100000 in
theorem ab_kc_X8_fault_0 : kX8_fault.all (ab_chk RX8 1 (decide (yX8_fault.name = "<init>")) cX8_fault) = true := by decide +kernel
theorem ab_kc_X8_fault : kX8_fault.all (ab_chk RX8 1 (decide (yX8_fault.name = "<init>")) cX8_fault) = true := ab_kc_X8_fault_0
set_option maxRecDepth 100000 in
theorem ab_kc_X8_rule_0 : kX8_rule.all (ab_chk RX8 2 (decide (yX8_rule.name = "<init>")) cX8_rule) = true := by decide +kernel
theorem ab_kc_X8_rule : kX8_rule.all (ab_chk RX8 2 (decide (yX8_rule.name = "<init>")) cX8_rule) = true := ab_kc_X8_rule_0
set_option maxRecDepth 100000 in
theorem ab_kc_X8_one_0 : kX8_one.all (ab_chk RX8 3 (decide (yX8_one.name = "<init>")) cX8_one) = true := by decide +kernel
theorem ab_kc_X8_one : kX8_one.all (ab_chk RX8 3 (decide (yX8_one.name = "<init>")) cX8_one) = true := ab_kc_X8_one_0
set_option maxRecDepth 100000 in
theorem ab_kc_X8_stone_0 : kX8_stone.all (ab_chk RX8 3 (decide (yX8_stone.name = "<init>")) cX8_stone) = true := by decide +kernel
theorem ab_kc_X8_stone : kX8_stone.all (ab_chk RX8 3 (decide (yX8_stone.name = "<init>")) cX8_stone) = true := ab_kc_X8_stone_0
set_option maxRecDepth 100000 in
theorem ab_kc_X8_debt_0 : kX8_debt.all (ab_chk RX8 3 (decide (yX8_debt.name = "<init>")) cX8_debt) = true := by decide +kernel
theorem ab_kc_X8_debt : kX8_debt.all (ab_chk RX8 3 (decide (yX8_debt.name = "<init>")) cX8_debt) = true := ab_kc_X8_debt_0
set_option maxRecDepth 100000 in
theorem ab_kc_X8_price_0 : kX8_price.all (ab_chk RX8 2 (decide (yX8_price.name = "<init>")) cX8_price) = true := by decide +kernel
theorem ab_kc_X8_price : kX8_price.all (ab_chk RX8 2 (decide (yX8_price.name = "<init>")) cX8_price) = true := ab_kc_X8_price_0
set_option maxRecDepth 100000 in
theorem ab_kc_X8_dress_0 : kX8_dress.all (ab_chk RX8 4 (decide (yX8_dress.name = "<init>")) cX8_dress) = true := by decide +kernel
theorem ab_kc_X8_dress : kX8_dress.all (ab_chk RX8 4 (decide (yX8_dress.name = "<init>")) cX8_dress) = true := ab_kc_X8_dress_0
set_option maxRecDepth 100000 in
theorem ab_kc_X8_warm_0 : kX8_warm.all (ab_chk RX8 4 (decide (yX8_warm.name = "<init>")) cX8_warm) = true := by decide +kernel
theorem ab_kc_X8_warm : kX8_warm.all (ab_chk RX8 4 (decide (yX8_warm.name = "<init>")) cX8_warm) = true := ab_kc_X8_warm_0
set_option maxRecDepth 100000 in
theorem ab_kc_X8_set_0 : kX8_set.all (ab_chk RX8 4 (decide (yX8_set.name = "<init>")) cX8_set) = true := by decide +kernel
theorem ab_kc_X8_set : kX8_set.all (ab_chk RX8 4 (decide (yX8_set.name = "<init>")) cX8_set) = true := ab_kc_X8_set_0
set_option maxRecDepth 100000 in
theorem ab_kc_X8_ask_0 : kX8_ask.all (ab_chk RX8 3 (decide (yX8_ask.name = "<init>")) cX8_ask) = true := by decide +kernel
theorem ab_kc_X8_ask : kX8_ask.all (ab_chk RX8 3 (decide (yX8_ask.name = "<init>")) cX8_ask) = true := ab_kc_X8_ask_0
set_option maxRecDepth 100000 in
theorem ab_kc_X8_owe_0 : kX8_owe.all (ab_chk RX8 3 (decide (yX8_owe.name = "<init>")) cX8_owe) = true := by decide +kernel
theorem ab_kc_X8_owe : kX8_owe.all (ab_chk RX8 3 (decide (yX8_owe.name = "<init>")) cX8_owe) = true := ab_kc_X8_owe_0
set_option maxRecDepth 100000 in
theorem ab_kc_X8_halve_0 : kX8_halve_q0.all (ab_chk RX8 2 (decide (yX8_halve.name = "<init>")) cX8_halve) = true := by decide +kernel
set_option maxRecDepth 100000 in
theorem ab_kc_X8_halve_1 : kX8_halve_q1.all (ab_chk RX8 2 (decide (yX8_halve.name = "<init>")) cX8_halve) = true := by decide +kernel
theorem ab_kc_X8_halve : kX8_halve.all (ab_chk RX8 2 (decide (yX8_halve.name = "<init>")) cX8_halve) = true := by
  simp only [kX8_halve, List.all_append, ab_kc_X8_halve_0, ab_kc_X8_halve_1, Bool.and_self]
set_option maxRecDepth 100000 in
theorem ab_kc_X8_go_0 : kX8_go.all (ab_chk RX8 2 (decide (yX8_go.name = "<init>")) cX8_go) = true := by decide +kernel
theorem ab_kc_X8_go : kX8_go.all (ab_chk RX8 2 (decide (yX8_go.name = "<init>")) cX8_go) = true := ab_kc_X8_go_0
set_option maxRecDepth 100000 in
theorem ab_kc_X8_pay_0 : kX8_pay.all (ab_chk RX8 4 (decide (yX8_pay.name = "<init>")) cX8_pay) = true := by decide +kernel
theorem ab_kc_X8_pay : kX8_pay.all (ab_chk RX8 4 (decide (yX8_pay.name = "<init>")) cX8_pay) = true := ab_kc_X8_pay_0
set_option maxRecDepth 100000 in
theorem ab_kc_X8_heat_0 : kX8_heat.all (ab_chk RX8 2 (decide (yX8_heat.name = "<init>")) cX8_heat) = true := by decide +kernel
theorem ab_kc_X8_heat : kX8_heat.all (ab_chk RX8 2 (decide (yX8_heat.name = "<init>")) cX8_heat) = true := ab_kc_X8_heat_0
set_option maxRecDepth 100000 in
theorem ab_kc_X8_after_0 : kX8_after.all (ab_chk RX8 3 (decide (yX8_after.name = "<init>")) cX8_after) = true := by decide +kernel
theorem ab_kc_X8_after : kX8_after.all (ab_chk RX8 3 (decide (yX8_after.name = "<init>")) cX8_after) = true := ab_kc_X8_after_0
set_option maxRecDepth 100000 in
theorem ab_kc_X8_cold_0 : kX8_cold.all (ab_chk RX8 5 (decide (yX8_cold.name = "<init>")) cX8_cold) = true := by decide +kernel
theorem ab_kc_X8_cold : kX8_cold.all (ab_chk RX8 5 (decide (yX8_cold.name = "<init>")) cX8_cold) = true := ab_kc_X8_cold_0
set_option maxRecDepth 100000 in
theorem ab_kc_X8_way_0 : kX8_way_q0.all (ab_chk RX8 5 (decide (yX8_way.name = "<init>")) cX8_way) = true := by decide +kernel
set_option maxRecDepth 100000 in
theorem ab_kc_X8_way_1 : kX8_way_q1.all (ab_chk RX8 5 (decide (yX8_way.name = "<init>")) cX8_way) = true := by decide +kernel
theorem ab_kc_X8_way : kX8_way.all (ab_chk RX8 5 (decide (yX8_way.name = "<init>")) cX8_way) = true := by
  simp only [kX8_way, List.all_append, ab_kc_X8_way_0, ab_kc_X8_way_1, Bool.and_self]
set_option maxRecDepth 100000 in
theorem ab_kc_X8_fewest_0 : kX8_fewest.all (ab_chk RX8 4 (decide (yX8_fewest.name = "<init>")) cX8_fewest) = true := by decide +kernel
theorem ab_kc_X8_fewest : kX8_fewest.all (ab_chk RX8 4 (decide (yX8_fewest.name = "<init>")) cX8_fewest) = true := ab_kc_X8_fewest_0
set_option maxRecDepth 100000 in
theorem ab_kc_X8_settle_0 : kX8_settle.all (ab_chk RX8 2 (decide (yX8_settle.name = "<init>")) cX8_settle) = true := by decide +kernel
theorem ab_kc_X8_settle : kX8_settle.all (ab_chk RX8 2 (decide (yX8_settle.name = "<init>")) cX8_settle) = true := ab_kc_X8_settle_0
set_option maxRecDepth 100000 in
theorem ab_kc_X8_wool_0 : kX8_wool.all (ab_chk RX8 4 (decide (yX8_wool.name = "<init>")) cX8_wool) = true := by decide +kernel
theorem ab_kc_X8_wool : kX8_wool.all (ab_chk RX8 4 (decide (yX8_wool.name = "<init>")) cX8_wool) = true := ab_kc_X8_wool_0
set_option maxRecDepth 100000 in
theorem ab_kc_X8_walks_0 : kX8_walks.all (ab_chk RX8 3 (decide (yX8_walks.name = "<init>")) cX8_walks) = true := by decide +kernel
theorem ab_kc_X8_walks : kX8_walks.all (ab_chk RX8 3 (decide (yX8_walks.name = "<init>")) cX8_walks) = true := ab_kc_X8_walks_0
set_option maxRecDepth 100000 in
theorem ab_kc_X8_buys_0 : kX8_buys.all (ab_chk RX8 8 (decide (yX8_buys.name = "<init>")) cX8_buys) = true := by decide +kernel
theorem ab_kc_X8_buys : kX8_buys.all (ab_chk RX8 8 (decide (yX8_buys.name = "<init>")) cX8_buys) = true := ab_kc_X8_buys_0
set_option maxRecDepth 100000 in
theorem ab_kc_X8_lasts_0 : kX8_lasts.all (ab_chk RX8 4 (decide (yX8_lasts.name = "<init>")) cX8_lasts) = true := by decide +kernel
theorem ab_kc_X8_lasts : kX8_lasts.all (ab_chk RX8 4 (decide (yX8_lasts.name = "<init>")) cX8_lasts) = true := ab_kc_X8_lasts_0
set_option maxRecDepth 100000 in
theorem ab_kc_X8_mean_0 : kX8_mean.all (ab_chk RX8 4 (decide (yX8_mean.name = "<init>")) cX8_mean) = true := by decide +kernel
theorem ab_kc_X8_mean : kX8_mean.all (ab_chk RX8 4 (decide (yX8_mean.name = "<init>")) cX8_mean) = true := ab_kc_X8_mean_0
set_option maxRecDepth 100000 in
theorem ab_kc_X8_spend_0 : kX8_spend.all (ab_chk RX8 9 (decide (yX8_spend.name = "<init>")) cX8_spend) = true := by decide +kernel
theorem ab_kc_X8_spend : kX8_spend.all (ab_chk RX8 9 (decide (yX8_spend.name = "<init>")) cX8_spend) = true := ab_kc_X8_spend_0
set_option maxRecDepth 100000 in
theorem ab_kc_X8_see_0 : kX8_see.all (ab_chk RX8 3 (decide (yX8_see.name = "<init>")) cX8_see) = true := by decide +kernel
theorem ab_kc_X8_see : kX8_see.all (ab_chk RX8 3 (decide (yX8_see.name = "<init>")) cX8_see) = true := ab_kc_X8_see_0
set_option maxRecDepth 100000 in
theorem ab_kc_X8_forget_0 : kX8_forget.all (ab_chk RX8 3 (decide (yX8_forget.name = "<init>")) cX8_forget) = true := by decide +kernel
theorem ab_kc_X8_forget : kX8_forget.all (ab_chk RX8 3 (decide (yX8_forget.name = "<init>")) cX8_forget) = true := ab_kc_X8_forget_0
set_option maxRecDepth 100000 in
theorem ab_kc_X8_fits_0 : kX8_fits.all (ab_chk RX8 2 (decide (yX8_fits.name = "<init>")) cX8_fits) = true := by decide +kernel
theorem ab_kc_X8_fits : kX8_fits.all (ab_chk RX8 2 (decide (yX8_fits.name = "<init>")) cX8_fits) = true := ab_kc_X8_fits_0
set_option maxRecDepth 100000 in
theorem ab_kc_X8_drift_0 : kX8_drift_q0.all (ab_chk RX8 9 (decide (yX8_drift.name = "<init>")) cX8_drift) = true := by decide +kernel
set_option maxRecDepth 100000 in
theorem ab_kc_X8_drift_1 : kX8_drift_q1.all (ab_chk RX8 9 (decide (yX8_drift.name = "<init>")) cX8_drift) = true := by decide +kernel
theorem ab_kc_X8_drift : kX8_drift.all (ab_chk RX8 9 (decide (yX8_drift.name = "<init>")) cX8_drift) = true := by
  simp only [kX8_drift, List.all_append, ab_kc_X8_drift_0, ab_kc_X8_drift_1, Bool.and_self]
set_option maxRecDepth 100000 in
theorem ab_kc_X8_keep_0 : kX8_keep.all (ab_chk RX8 3 (decide (yX8_keep.name = "<init>")) cX8_keep) = true := by decide +kernel
theorem ab_kc_X8_keep : kX8_keep.all (ab_chk RX8 3 (decide (yX8_keep.name = "<init>")) cX8_keep) = true := ab_kc_X8_keep_0
set_option maxRecDepth 100000 in
theorem ab_kc_X8_back_0 : kX8_back.all (ab_chk RX8 2 (decide (yX8_back.name = "<init>")) cX8_back) = true := by decide +kernel
theorem ab_kc_X8_back : kX8_back.all (ab_chk RX8 2 (decide (yX8_back.name = "<init>")) cX8_back) = true := ab_kc_X8_back_0
set_option maxRecDepth 100000 in
theorem ab_kc_X8_sheet_0 : kX8_sheet.all (ab_chk RX8 4 (decide (yX8_sheet.name = "<init>")) cX8_sheet) = true := by decide +kernel
theorem ab_kc_X8_sheet : kX8_sheet.all (ab_chk RX8 4 (decide (yX8_sheet.name = "<init>")) cX8_sheet) = true := ab_kc_X8_sheet_0
set_option maxRecDepth 100000 in
theorem ab_kc_X8_lay_0 : kX8_lay.all (ab_chk RX8 5 (decide (yX8_lay.name = "<init>")) cX8_lay) = true := by decide +kernel
theorem ab_kc_X8_lay : kX8_lay.all (ab_chk RX8 5 (decide (yX8_lay.name = "<init>")) cX8_lay) = true := ab_kc_X8_lay_0
set_option maxRecDepth 100000 in
theorem ab_kc_X8_read_0 : kX8_read_q0.all (ab_chk RX8 13 (decide (yX8_read.name = "<init>")) cX8_read) = true := by decide +kernel
set_option maxRecDepth 100000 in
theorem ab_kc_X8_read_1 : kX8_read_q1.all (ab_chk RX8 13 (decide (yX8_read.name = "<init>")) cX8_read) = true := by decide +kernel
theorem ab_kc_X8_read : kX8_read.all (ab_chk RX8 13 (decide (yX8_read.name = "<init>")) cX8_read) = true := by
  simp only [kX8_read, List.all_append, ab_kc_X8_read_0, ab_kc_X8_read_1, Bool.and_self]
set_option maxRecDepth 100000 in
theorem ab_kc_X8_torn_0 : kX8_torn.all (ab_chk RX8 1 (decide (yX8_torn.name = "<init>")) cX8_torn) = true := by decide +kernel
theorem ab_kc_X8_torn : kX8_torn.all (ab_chk RX8 1 (decide (yX8_torn.name = "<init>")) cX8_torn) = true := ab_kc_X8_torn_0
set_option maxRecDepth 100000 in
theorem ab_kc_X8_count_0 : kX8_count.all (ab_chk RX8 2 (decide (yX8_count.name = "<init>")) cX8_count) = true := by decide +kernel
theorem ab_kc_X8_count : kX8_count.all (ab_chk RX8 2 (decide (yX8_count.name = "<init>")) cX8_count) = true := ab_kc_X8_count_0
set_option maxRecDepth 100000 in
theorem ab_kc_X8_isIn_0 : kX8_isIn.all (ab_chk RX8 3 (decide (yX8_isIn.name = "<init>")) cX8_isIn) = true := by decide +kernel
theorem ab_kc_X8_isIn : kX8_isIn.all (ab_chk RX8 3 (decide (yX8_isIn.name = "<init>")) cX8_isIn) = true := ab_kc_X8_isIn_0
set_option maxRecDepth 100000 in
theorem ab_kc_X8_isSheet_0 : kX8_isSheet.all (ab_chk RX8 1 (decide (yX8_isSheet.name = "<init>")) cX8_isSheet) = true := by decide +kernel
theorem ab_kc_X8_isSheet : kX8_isSheet.all (ab_chk RX8 1 (decide (yX8_isSheet.name = "<init>")) cX8_isSheet) = true := ab_kc_X8_isSheet_0
set_option maxRecDepth 100000 in
theorem ab_okc_2 : ∀ mi ∈ ab_mt_2, mi.2.2.2.2.2.2.all (ab_chk mi.1 mi.2.2.2.1 (decide (mi.2.1.name = "<init>")) mi.2.2.1) = true := List.forall_mem_cons.mpr ⟨ab_kc_X8_text, List.forall_mem_cons.mpr ⟨ab_kc_X8_fault, List.forall_mem_cons.mpr ⟨ab_kc_X8_rule, List.forall_mem_cons.mpr ⟨ab_kc_X8_one, List.forall_mem_cons.mpr ⟨ab_kc_X8_stone, List.forall_mem_cons.mpr ⟨ab_kc_X8_debt, List.forall_mem_cons.mpr ⟨ab_kc_X8_price, List.forall_mem_cons.mpr ⟨ab_kc_X8_dress, List.forall_mem_cons.mpr ⟨ab_kc_X8_warm, List.forall_mem_cons.mpr ⟨ab_kc_X8_set, List.forall_mem_cons.mpr ⟨ab_kc_X8_ask, List.forall_mem_cons.mpr ⟨ab_kc_X8_owe, List.forall_mem_cons.mpr ⟨ab_kc_X8_halve, List.forall_mem_cons.mpr ⟨ab_kc_X8_go, List.forall_mem_cons.mpr ⟨ab_kc_X8_pay, List.forall_mem_cons.mpr ⟨ab_kc_X8_heat, List.forall_mem_cons.mpr ⟨ab_kc_X8_after, List.forall_mem_cons.mpr ⟨ab_kc_X8_cold, List.forall_mem_cons.mpr ⟨ab_kc_X8_way, List.forall_mem_cons.mpr ⟨ab_kc_X8_fewest, List.forall_mem_cons.mpr ⟨ab_kc_X8_settle, List.forall_mem_cons.mpr ⟨ab_kc_X8_wool, List.forall_mem_cons.mpr ⟨ab_kc_X8_walks, List.forall_mem_cons.mpr ⟨ab_kc_X8_buys, List.forall_mem_cons.mpr ⟨ab_kc_X8_lasts, List.forall_mem_cons.mpr ⟨ab_kc_X8_mean, List.forall_mem_cons.mpr ⟨ab_kc_X8_spend, List.forall_mem_cons.mpr ⟨ab_kc_X8_see, List.forall_mem_cons.mpr ⟨ab_kc_X8_forget, List.forall_mem_cons.mpr ⟨ab_kc_X8_fits, List.forall_mem_cons.mpr ⟨ab_kc_X8_drift, List.forall_mem_cons.mpr ⟨ab_kc_X8_keep, List.forall_mem_cons.mpr ⟨ab_kc_X8_back, List.forall_mem_cons.mpr ⟨ab_kc_X8_sheet, List.forall_mem_cons.mpr ⟨ab_kc_X8_lay, List.forall_mem_cons.mpr ⟨ab_kc_X8_read, List.forall_mem_cons.mpr ⟨ab_kc_X8_torn, List.forall_mem_cons.mpr ⟨ab_kc_X8_count, List.forall_mem_cons.mpr ⟨ab_kc_X8_isIn, List.forall_mem_cons.mpr ⟨ab_kc_X8_isSheet, fun _ h => absurd h List.not_mem_nil⟩⟩⟩⟩⟩⟩⟩⟩⟩⟩⟩⟩⟩⟩⟩⟩⟩⟩⟩⟩⟩⟩⟩⟩⟩⟩⟩⟩⟩⟩⟩⟩⟩⟩⟩⟩⟩⟩⟩⟩
set_option maxRecDepth 100000 in
theorem ab_ok_2 : (ab_mt_2.zip ab_hn_2).all (fun x => ab_okm x.1 x.2) = true := by decide +kernel
theorem ab_okl_2 : ab_mt_2.length = ab_hn_2.length := by decide +kernel
set_option maxRecDepth 100000 in
theorem ab_kw_X8_text : Cond.code yX8_text cX8_text 3 (some .int) ∈ ab_gt := List.mem_filter.mpr ⟨List.mem_of_getElem? (i := 457) rfl, rfl⟩
set_option maxRecDepth 100000 in
theorem ab_kw_X8_fault : Cond.code yX8_fault cX8_fault 1 (some .int) ∈ ab_gt := List.mem_filter.mpr ⟨List.mem_of_getElem? (i := 628) rfl, rfl⟩
set_option maxRecDepth 100000 in
theorem ab_kw_X8_rule : Cond.code yX8_rule cX8_rule 2 (some .int) ∈ ab_gt := List.mem_filter.mpr ⟨List.mem_of_getElem? (i := 632) rfl, rfl⟩
set_option maxRecDepth 100000 in
theorem ab_kw_X8_one : Cond.code yX8_one cX8_one 3 (some .int) ∈ ab_gt := List.mem_filter.mpr ⟨List.mem_of_getElem? (i := 636) rfl, rfl⟩
set_option maxRecDepth 100000 in
theorem ab_kw_X8_stone : Cond.code yX8_stone cX8_stone 3 (some .int) ∈ ab_gt := List.mem_filter.mpr ⟨List.mem_of_getElem? (i := 649) rfl, rfl⟩
set_option maxRecDepth 100000 in
theorem ab_kw_X8_debt : Cond.code yX8_debt cX8_debt 3 (some .int) ∈ ab_gt := List.mem_filter.mpr ⟨List.mem_of_getElem? (i := 672) rfl, rfl⟩
set_option maxRecDepth 100000 in
theorem ab_kw_X8_price : Cond.code yX8_price cX8_price 2 (some .int) ∈ ab_gt := List.mem_filter.mpr ⟨List.mem_of_getElem? (i := 680) rfl, rfl⟩
set_option maxRecDepth 100000 in
theorem ab_kw_X8_dress : Cond.code yX8_dress cX8_dress 4 (some .int) ∈ ab_gt := List.mem_filter.mpr ⟨List.mem_of_getElem? (i := 684) rfl, rfl⟩
set_option maxRecDepth 100000 in
theorem ab_kw_X8_warm : Cond.code yX8_warm cX8_warm 4 (some .int) ∈ ab_gt := List.mem_filter.mpr ⟨List.mem_of_getElem? (i := 691) rfl, rfl⟩
set_option maxRecDepth 100000 in
theorem ab_kw_X8_set : Cond.code yX8_set cX8_set 4 (some .int) ∈ ab_gt := List.mem_filter.mpr ⟨List.mem_of_getElem? (i := 695) rfl, rfl⟩
set_option maxRecDepth 100000 in
theorem ab_kw_X8_ask : Cond.code yX8_ask cX8_ask 3 (some .int) ∈ ab_gt := List.mem_filter.mpr ⟨List.mem_of_getElem? (i := 699) rfl, rfl⟩
set_option maxRecDepth 100000 in
theorem ab_kw_X8_owe : Cond.code yX8_owe cX8_owe 3 (some .int) ∈ ab_gt := List.mem_filter.mpr ⟨List.mem_of_getElem? (i := 703) rfl, rfl⟩
set_option maxRecDepth 100000 in
theorem ab_kw_X8_halve : Cond.code yX8_halve cX8_halve 2 (some .int) ∈ ab_gt := List.mem_filter.mpr ⟨List.mem_of_getElem? (i := 707) rfl, rfl⟩
set_option maxRecDepth 100000 in
theorem ab_kw_X8_go : Cond.code yX8_go cX8_go 2 (some .int) ∈ ab_gt := List.mem_filter.mpr ⟨List.mem_of_getElem? (i := 712) rfl, rfl⟩
set_option maxRecDepth 100000 in
theorem ab_kw_X8_pay : Cond.code yX8_pay cX8_pay 4 (some .int) ∈ ab_gt := List.mem_filter.mpr ⟨List.mem_of_getElem? (i := 732) rfl, rfl⟩
set_option maxRecDepth 100000 in
theorem ab_kw_X8_heat : Cond.code yX8_heat cX8_heat 2 (some .int) ∈ ab_gt := List.mem_filter.mpr ⟨List.mem_of_getElem? (i := 761) rfl, rfl⟩
set_option maxRecDepth 100000 in
theorem ab_kw_X8_after : Cond.code yX8_after cX8_after 3 (some .int) ∈ ab_gt := List.mem_filter.mpr ⟨List.mem_of_getElem? (i := 774) rfl, rfl⟩
set_option maxRecDepth 100000 in
theorem ab_kw_X8_cold : Cond.code yX8_cold cX8_cold 5 (some .int) ∈ ab_gt := List.mem_filter.mpr ⟨List.mem_of_getElem? (i := 779) rfl, rfl⟩
set_option maxRecDepth 100000 in
theorem ab_kw_X8_way : Cond.code yX8_way cX8_way 5 (some .int) ∈ ab_gt := List.mem_filter.mpr ⟨List.mem_of_getElem? (i := 783) rfl, rfl⟩
set_option maxRecDepth 100000 in
theorem ab_kw_X8_fewest : Cond.code yX8_fewest cX8_fewest 4 (some .int) ∈ ab_gt := List.mem_filter.mpr ⟨List.mem_of_getElem? (i := 803) rfl, rfl⟩
set_option maxRecDepth 100000 in
theorem ab_kw_X8_settle : Cond.code yX8_settle cX8_settle 2 (some .int) ∈ ab_gt := List.mem_filter.mpr ⟨List.mem_of_getElem? (i := 836) rfl, rfl⟩
set_option maxRecDepth 100000 in
theorem ab_kw_X8_wool : Cond.code yX8_wool cX8_wool 4 (some .int) ∈ ab_gt := List.mem_filter.mpr ⟨List.mem_of_getElem? (i := 856) rfl, rfl⟩
set_option maxRecDepth 100000 in
theorem ab_kw_X8_walks : Cond.code yX8_walks cX8_walks 3 (some .int) ∈ ab_gt := List.mem_filter.mpr ⟨List.mem_of_getElem? (i := 861) rfl, rfl⟩
set_option maxRecDepth 100000 in
theorem ab_kw_X8_buys : Cond.code yX8_buys cX8_buys 8 (some .int) ∈ ab_gt := List.mem_filter.mpr ⟨List.mem_of_getElem? (i := 896) rfl, rfl⟩
set_option maxRecDepth 100000 in
theorem ab_kw_X8_lasts : Cond.code yX8_lasts cX8_lasts 4 (some .long) ∈ ab_gt := List.mem_filter.mpr ⟨List.mem_of_getElem? (i := 904) rfl, rfl⟩
set_option maxRecDepth 100000 in
theorem ab_kw_X8_mean : Cond.code yX8_mean cX8_mean 4 (some .long) ∈ ab_gt := List.mem_filter.mpr ⟨List.mem_of_getElem? (i := 923) rfl, rfl⟩
set_option maxRecDepth 100000 in
theorem ab_kw_X8_spend : Cond.code yX8_spend cX8_spend 9 (some .long) ∈ ab_gt := List.mem_filter.mpr ⟨List.mem_of_getElem? (i := 930) rfl, rfl⟩
set_option maxRecDepth 100000 in
theorem ab_kw_X8_see : Cond.code yX8_see cX8_see 3 (some .int) ∈ ab_gt := List.mem_filter.mpr ⟨List.mem_of_getElem? (i := 940) rfl, rfl⟩
set_option maxRecDepth 100000 in
theorem ab_kw_X8_forget : Cond.code yX8_forget cX8_forget 3 (some .int) ∈ ab_gt := List.mem_filter.mpr ⟨List.mem_of_getElem? (i := 948) rfl, rfl⟩
set_option maxRecDepth 100000 in
theorem ab_kw_X8_fits : Cond.code yX8_fits cX8_fits 2 (some .int) ∈ ab_gt := List.mem_filter.mpr ⟨List.mem_of_getElem? (i := 952) rfl, rfl⟩
set_option maxRecDepth 100000 in
theorem ab_kw_X8_drift : Cond.code yX8_drift cX8_drift 9 (some .int) ∈ ab_gt := List.mem_filter.mpr ⟨List.mem_of_getElem? (i := 966) rfl, rfl⟩
set_option maxRecDepth 100000 in
theorem ab_kw_X8_keep : Cond.code yX8_keep cX8_keep 3 (some .int) ∈ ab_gt := List.mem_filter.mpr ⟨List.mem_of_getElem? (i := 977) rfl, rfl⟩
set_option maxRecDepth 100000 in
theorem ab_kw_X8_back : Cond.code yX8_back cX8_back 2 (some .int) ∈ ab_gt := List.mem_filter.mpr ⟨List.mem_of_getElem? (i := 981) rfl, rfl⟩
set_option maxRecDepth 100000 in
theorem ab_kw_X8_sheet : Cond.code yX8_sheet cX8_sheet 4 (some .int) ∈ ab_gt := List.mem_filter.mpr ⟨List.mem_of_getElem? (i := 985) rfl, rfl⟩
set_option maxRecDepth 100000 in
theorem ab_kw_X8_lay : Cond.code yX8_lay cX8_lay 5 (some .int) ∈ ab_gt := List.mem_filter.mpr ⟨List.mem_of_getElem? (i := 999) rfl, rfl⟩
set_option maxRecDepth 100000 in
theorem ab_kw_X8_read : Cond.code yX8_read cX8_read 13 (some .int) ∈ ab_gt := List.mem_filter.mpr ⟨List.mem_of_getElem? (i := 1015) rfl, rfl⟩
set_option maxRecDepth 100000 in
theorem ab_kw_X8_torn : Cond.code yX8_torn cX8_torn 1 (some .int) ∈ ab_gt := List.mem_filter.mpr ⟨List.mem_of_getElem? (i := 1025) rfl, rfl⟩
set_option maxRecDepth 100000 in
theorem ab_kw_X8_count : Cond.code yX8_count cX8_count 2 (some .int) ∈ ab_gt := List.mem_filter.mpr ⟨List.mem_of_getElem? (i := 1029) rfl, rfl⟩
set_option maxRecDepth 100000 in
theorem ab_kw_X8_isIn : Cond.code yX8_isIn cX8_isIn 3 (some .boolean) ∈ ab_gt := List.mem_filter.mpr ⟨List.mem_of_getElem? (i := 445) rfl, rfl⟩
set_option maxRecDepth 100000 in
theorem ab_kw_X8_isSheet : Cond.code yX8_isSheet cX8_isSheet 1 (some .boolean) ∈ ab_gt := List.mem_filter.mpr ⟨List.mem_of_getElem? (i := 988) rfl, rfl⟩
set_option maxRecDepth 100000 in
theorem ab_okw_2 : ∀ mi ∈ ab_mt_2, Cond.code mi.2.1 mi.2.2.1 mi.2.2.2.1 mi.2.2.2.2.1 ∈ ab_gt := List.forall_mem_cons.mpr ⟨ab_kw_X8_text, List.forall_mem_cons.mpr ⟨ab_kw_X8_fault, List.forall_mem_cons.mpr ⟨ab_kw_X8_rule, List.forall_mem_cons.mpr ⟨ab_kw_X8_one, List.forall_mem_cons.mpr ⟨ab_kw_X8_stone, List.forall_mem_cons.mpr ⟨ab_kw_X8_debt, List.forall_mem_cons.mpr ⟨ab_kw_X8_price, List.forall_mem_cons.mpr ⟨ab_kw_X8_dress, List.forall_mem_cons.mpr ⟨ab_kw_X8_warm, List.forall_mem_cons.mpr ⟨ab_kw_X8_set, List.forall_mem_cons.mpr ⟨ab_kw_X8_ask, List.forall_mem_cons.mpr ⟨ab_kw_X8_owe, List.forall_mem_cons.mpr ⟨ab_kw_X8_halve, List.forall_mem_cons.mpr ⟨ab_kw_X8_go, List.forall_mem_cons.mpr ⟨ab_kw_X8_pay, List.forall_mem_cons.mpr ⟨ab_kw_X8_heat, List.forall_mem_cons.mpr ⟨ab_kw_X8_after, List.forall_mem_cons.mpr ⟨ab_kw_X8_cold, List.forall_mem_cons.mpr ⟨ab_kw_X8_way, List.forall_mem_cons.mpr ⟨ab_kw_X8_fewest, List.forall_mem_cons.mpr ⟨ab_kw_X8_settle, List.forall_mem_cons.mpr ⟨ab_kw_X8_wool, List.forall_mem_cons.mpr ⟨ab_kw_X8_walks, List.forall_mem_cons.mpr ⟨ab_kw_X8_buys, List.forall_mem_cons.mpr ⟨ab_kw_X8_lasts, List.forall_mem_cons.mpr ⟨ab_kw_X8_mean, List.forall_mem_cons.mpr ⟨ab_kw_X8_spend, List.forall_mem_cons.mpr ⟨ab_kw_X8_see, List.forall_mem_cons.mpr ⟨ab_kw_X8_forget, List.forall_mem_cons.mpr ⟨ab_kw_X8_fits, List.forall_mem_cons.mpr ⟨ab_kw_X8_drift, List.forall_mem_cons.mpr ⟨ab_kw_X8_keep, List.forall_mem_cons.mpr ⟨ab_kw_X8_back, List.forall_mem_cons.mpr ⟨ab_kw_X8_sheet, List.forall_mem_cons.mpr ⟨ab_kw_X8_lay, List.forall_mem_cons.mpr ⟨ab_kw_X8_read, List.forall_mem_cons.mpr ⟨ab_kw_X8_torn, List.forall_mem_cons.mpr ⟨ab_kw_X8_count, List.forall_mem_cons.mpr ⟨ab_kw_X8_isIn, List.forall_mem_cons.mpr ⟨ab_kw_X8_isSheet, fun _ h => absurd h List.not_mem_nil⟩⟩⟩⟩⟩⟩⟩⟩⟩⟩⟩⟩⟩⟩⟩⟩⟩⟩⟩⟩⟩⟩⟩⟩⟩⟩⟩⟩⟩⟩⟩⟩⟩⟩⟩⟩⟩⟩⟩⟩
