/-! the printed code is the code: decided by program -/
set_option maxRecDepth 100000 in
theorem ab_kw_X9_byWind : Cond.code yX9_byWind cX9_byWind 17 (some .long) ∈ ab_gt := List.mem_filter.mpr ⟨List.mem_of_getElem? (i := 1440) rfl, rfl⟩
set_option maxRecDepth 100000 in
theorem ab_kw_X9_lasts : Cond.code yX9_lasts cX9_lasts 4 (some .long) ∈ ab_gt := List.mem_filter.mpr ⟨List.mem_of_getElem? (i := 1436) rfl, rfl⟩
set_option maxRecDepth 100000 in
theorem ab_kw_X9_mean : Cond.code yX9_mean cX9_mean 4 (some .long) ∈ ab_gt := List.mem_filter.mpr ⟨List.mem_of_getElem? (i := 1452) rfl, rfl⟩
set_option maxRecDepth 100000 in
theorem ab_kw_X9_spent : Cond.code yX9_spent cX9_spent 12 (some .long) ∈ ab_gt := List.mem_filter.mpr ⟨List.mem_of_getElem? (i := 1460) rfl, rfl⟩
set_option maxRecDepth 100000 in
theorem ab_kw_X9_spend : Cond.code yX9_spend cX9_spend 5 (some .long) ∈ ab_gt := List.mem_filter.mpr ⟨List.mem_of_getElem? (i := 1456) rfl, rfl⟩
set_option maxRecDepth 100000 in
theorem ab_kw_X9_see : Cond.code yX9_see cX9_see 3 (some .int) ∈ ab_gt := List.mem_filter.mpr ⟨List.mem_of_getElem? (i := 1465) rfl, rfl⟩
set_option maxRecDepth 100000 in
theorem ab_kw_X9_forget : Cond.code yX9_forget cX9_forget 3 (some .int) ∈ ab_gt := List.mem_filter.mpr ⟨List.mem_of_getElem? (i := 1470) rfl, rfl⟩
set_option maxRecDepth 100000 in
theorem ab_kw_X9_isAsSeen : Cond.code yX9_isAsSeen cX9_isAsSeen 5 (some .boolean) ∈ ab_gt := List.mem_filter.mpr ⟨List.mem_of_getElem? (i := 1478) rfl, rfl⟩
set_option maxRecDepth 100000 in
theorem ab_kw_X9_fits : Cond.code yX9_fits cX9_fits 8 (some .int) ∈ ab_gt := List.mem_filter.mpr ⟨List.mem_of_getElem? (i := 1474) rfl, rfl⟩
set_option maxRecDepth 100000 in
theorem ab_kw_X9_draws : Cond.code yX9_draws cX9_draws 2 (some .int) ∈ ab_gt := List.mem_filter.mpr ⟨List.mem_of_getElem? (i := 1486) rfl, rfl⟩
set_option maxRecDepth 100000 in
theorem ab_kw_X9_drift : Cond.code yX9_drift cX9_drift 8 (some .int) ∈ ab_gt := List.mem_filter.mpr ⟨List.mem_of_getElem? (i := 1482) rfl, rfl⟩
set_option maxRecDepth 100000 in
theorem ab_kw_X9_keep : Cond.code yX9_keep cX9_keep 3 (some .int) ∈ ab_gt := List.mem_filter.mpr ⟨List.mem_of_getElem? (i := 1491) rfl, rfl⟩
set_option maxRecDepth 100000 in
theorem ab_kw_X9_back : Cond.code yX9_back cX9_back 2 (some .int) ∈ ab_gt := List.mem_filter.mpr ⟨List.mem_of_getElem? (i := 1495) rfl, rfl⟩
set_option maxRecDepth 100000 in
theorem ab_kw_X9_sheet : Cond.code yX9_sheet cX9_sheet 5 (some .int) ∈ ab_gt := List.mem_filter.mpr ⟨List.mem_of_getElem? (i := 1499) rfl, rfl⟩
set_option maxRecDepth 100000 in
theorem ab_kw_X9_lay : Cond.code yX9_lay cX9_lay 4 (some .int) ∈ ab_gt := List.mem_filter.mpr ⟨List.mem_of_getElem? (i := 1503) rfl, rfl⟩
set_option maxRecDepth 100000 in
theorem ab_kw_X9_read : Cond.code yX9_read cX9_read 9 (some .int) ∈ ab_gt := List.mem_filter.mpr ⟨List.mem_of_getElem? (i := 1507) rfl, rfl⟩
set_option maxRecDepth 100000 in
theorem ab_kw_X9_torn : Cond.code yX9_torn cX9_torn 1 (some .int) ∈ ab_gt := List.mem_filter.mpr ⟨List.mem_of_getElem? (i := 1511) rfl, rfl⟩
set_option maxRecDepth 100000 in
theorem ab_kw_X9_count : Cond.code yX9_count cX9_count 5 (some .int) ∈ ab_gt := List.mem_filter.mpr ⟨List.mem_of_getElem? (i := 1515) rfl, rfl⟩
set_option maxRecDepth 100000 in
theorem ab_kw_J6_bitCount_0f7a4 : Cond.code yJ6_bitCount_0f7a4 cJ6_bitCount_0f7a4 1 (some .int) ∈ ab_gt := List.mem_filter.mpr ⟨List.mem_of_getElem? (i := 819) rfl, rfl⟩
set_option maxRecDepth 100000 in
theorem ab_kw_J9_abs_0f7a4 : Cond.code yJ9_abs_0f7a4 cJ9_abs_0f7a4 1 (some .int) ∈ ab_gt := List.mem_filter.mpr ⟨List.mem_of_getElem? (i := 744) rfl, rfl⟩
set_option maxRecDepth 100000 in
theorem ab_kw_J9_max_7cf53 : Cond.code yJ9_max_7cf53 cJ9_max_7cf53 2 (some .int) ∈ ab_gt := List.mem_filter.mpr ⟨List.mem_of_getElem? (i := 665) rfl, rfl⟩
set_option maxRecDepth 100000 in
theorem ab_kw_J9_max_f86c9 : Cond.code yJ9_max_f86c9 cJ9_max_f86c9 4 (some .long) ∈ ab_gt := List.mem_filter.mpr ⟨List.mem_of_getElem? (i := 919) rfl, rfl⟩
set_option maxRecDepth 100000 in
theorem ab_kw_J9_min_7cf53 : Cond.code yJ9_min_7cf53 cJ9_min_7cf53 2 (some .int) ∈ ab_gt := List.mem_filter.mpr ⟨List.mem_of_getElem? (i := 868) rfl, rfl⟩
set_option maxRecDepth 100000 in
theorem ab_kw_J0_length_8abf5 : Cond.code yJ0_length_8abf5 cJ0_length_8abf5 1 (some .int) ∈ ab_gt := List.mem_filter.mpr ⟨List.mem_of_getElem? (i := 508) rfl, rfl⟩
set_option maxRecDepth 100000 in
theorem ab_kw_J0_charAt_5068e : Cond.code yJ0_charAt_5068e cJ0_charAt_5068e 2 (some .char) ∈ ab_gt := List.mem_filter.mpr ⟨List.mem_of_getElem? (i := 518) rfl, rfl⟩
set_option maxRecDepth 100000 in
theorem ab_kw_J0_coder_7d493 : Cond.code yJ0_coder_7d493 cJ0_coder_7d493 1 (some .byte) ∈ ab_gt := List.mem_filter.mpr ⟨List.mem_of_getElem? (i := 512) rfl, rfl⟩
set_option maxRecDepth 100000 in
theorem ab_kw_J0_isLatin1_aae02 : Cond.code yJ0_isLatin1_aae02 cJ0_isLatin1_aae02 1 (some .boolean) ∈ ab_gt := List.mem_filter.mpr ⟨List.mem_of_getElem? (i := 522) rfl, rfl⟩
set_option maxRecDepth 100000 in
theorem ab_kw_J0_checkIndex_df160 : Cond.code yJ0_checkIndex_df160 cJ0_checkIndex_df160 2 none ∈ ab_gt := List.mem_filter.mpr ⟨List.mem_of_getElem? (i := 528) rfl, rfl⟩
set_option maxRecDepth 100000 in
theorem ab_kw_J1_charAt_3b067 : Cond.code yJ1_charAt_3b067 cJ1_charAt_3b067 2 (some .char) ∈ ab_gt := List.mem_filter.mpr ⟨List.mem_of_getElem? (i := 525) rfl, rfl⟩
set_option maxRecDepth 100000 in
theorem ab_kw_J3_checkIndex_8e157 : Cond.code yJ3_checkIndex_8e157 cJ3_checkIndex_8e157 3 (some .int) ∈ ab_gt := List.mem_filter.mpr ⟨List.mem_of_getElem? (i := 533) rfl, rfl⟩
set_option maxRecDepth 100000 in
theorem ab_okw_5 : ∀ mi ∈ ab_mt_5, Cond.code mi.2.1 mi.2.2.1 mi.2.2.2.1 mi.2.2.2.2.1 ∈ ab_gt := List.forall_mem_cons.mpr ⟨ab_kw_X9_byWind, List.forall_mem_cons.mpr ⟨ab_kw_X9_lasts, List.forall_mem_cons.mpr ⟨ab_kw_X9_mean, List.forall_mem_cons.mpr ⟨ab_kw_X9_spent, List.forall_mem_cons.mpr ⟨ab_kw_X9_spend, List.forall_mem_cons.mpr ⟨ab_kw_X9_see, List.forall_mem_cons.mpr ⟨ab_kw_X9_forget, List.forall_mem_cons.mpr ⟨ab_kw_X9_isAsSeen, List.forall_mem_cons.mpr ⟨ab_kw_X9_fits, List.forall_mem_cons.mpr ⟨ab_kw_X9_draws, List.forall_mem_cons.mpr ⟨ab_kw_X9_drift, List.forall_mem_cons.mpr ⟨ab_kw_X9_keep, List.forall_mem_cons.mpr ⟨ab_kw_X9_back, List.forall_mem_cons.mpr ⟨ab_kw_X9_sheet, List.forall_mem_cons.mpr ⟨ab_kw_X9_lay, List.forall_mem_cons.mpr ⟨ab_kw_X9_read, List.forall_mem_cons.mpr ⟨ab_kw_X9_torn, List.forall_mem_cons.mpr ⟨ab_kw_X9_count, List.forall_mem_cons.mpr ⟨ab_kw_J6_bitCount_0f7a4, List.forall_mem_cons.mpr ⟨ab_kw_J9_abs_0f7a4, List.forall_mem_cons.mpr ⟨ab_kw_J9_max_7cf53, List.forall_mem_cons.mpr ⟨ab_kw_J9_max_f86c9, List.forall_mem_cons.mpr ⟨ab_kw_J9_min_7cf53, List.forall_mem_cons.mpr ⟨ab_kw_J0_length_8abf5, List.forall_mem_cons.mpr ⟨ab_kw_J0_charAt_5068e, List.forall_mem_cons.mpr ⟨ab_kw_J0_coder_7d493, List.forall_mem_cons.mpr ⟨ab_kw_J0_isLatin1_aae02, List.forall_mem_cons.mpr ⟨ab_kw_J0_checkIndex_df160, List.forall_mem_cons.mpr ⟨ab_kw_J1_charAt_3b067, List.forall_mem_cons.mpr ⟨ab_kw_J3_checkIndex_8e157, fun _ h => absurd h List.not_mem_nil⟩⟩⟩⟩⟩⟩⟩⟩⟩⟩⟩⟩⟩⟩⟩⟩⟩⟩⟩⟩⟩⟩⟩⟩⟩⟩⟩⟩⟩⟩
