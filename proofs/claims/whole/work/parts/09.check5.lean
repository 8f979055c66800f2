/-! the printed code is the code: decided by program -/
set_option maxRecDepth 100000 in
theorem ab_kc_X9_byWind_0 : kX9_byWind_q0.all (ab_chk RX9 17 (decide (yX9_byWind.name = "<init>")) cX9_byWind) = true := by decide +kernel
set_option maxRecDepth 100000 in
theorem ab_kc_X9_byWind_1 : kX9_byWind_q1.all (ab_chk RX9 17 (decide (yX9_byWind.name = "<init>")) cX9_byWind) = true := by decide +kernel
theorem ab_kc_X9_byWind : kX9_byWind.all (ab_chk RX9 17 (decide (yX9_byWind.name = "<init>")) cX9_byWind) = true := by
  simp only [kX9_byWind, List.all_append, ab_kc_X9_byWind_0, ab_kc_X9_byWind_1, Bool.and_self]
set_option maxRecDepth 100000 in
theorem ab_kc_X9_lasts_0 : kX9_lasts.all (ab_chk RX9 4 (decide (yX9_lasts.name = "<init>")) cX9_lasts) = true := by decide +kernel
theorem ab_kc_X9_lasts : kX9_lasts.all (ab_chk RX9 4 (decide (yX9_lasts.name = "<init>")) cX9_lasts) = true := ab_kc_X9_lasts_0
set_option maxRecDepth 100000 in
theorem ab_kc_X9_mean_0 : kX9_mean.all (ab_chk RX9 4 (decide (yX9_mean.name = "<init>")) cX9_mean) = true := by decide +kernel
theorem ab_kc_X9_mean : kX9_mean.all (ab_chk RX9 4 (decide (yX9_mean.name = "<init>")) cX9_mean) = true := ab_kc_X9_mean_0
set_option maxRecDepth 100000 in
theorem ab_kc_X9_spent_0 : kX9_spent_q0.all (ab_chk RX9 12 (decide (yX9_spent.name = "<init>")) cX9_spent) = true := by decide +kernel
set_option maxRecDepth 100000 in
theorem ab_kc_X9_spent_1 : kX9_spent_q1.all (ab_chk RX9 12 (decide (yX9_spent.name = "<init>")) cX9_spent) = true := by decide +kernel
set_option maxRecDepth 100000 in
theorem ab_kc_X9_spent_2 : kX9_spent_q2.all (ab_chk RX9 12 (decide (yX9_spent.name = "<init>")) cX9_spent) = true := by decide +kernel
theorem ab_kc_X9_spent : kX9_spent.all (ab_chk RX9 12 (decide (yX9_spent.name = "<init>")) cX9_spent) = true := by
  simp only [kX9_spent, List.all_append, ab_kc_X9_spent_0, ab_kc_X9_spent_1, ab_kc_X9_spent_2, Bool.and_self]
set_option maxRecDepth 100000 in
theorem ab_kc_X9_spend_0 : kX9_spend.all (ab_chk RX9 5 (decide (yX9_spend.name = "<init>")) cX9_spend) = true := by decide +kernel
theorem ab_kc_X9_spend : kX9_spend.all (ab_chk RX9 5 (decide (yX9_spend.name = "<init>")) cX9_spend) = true := ab_kc_X9_spend_0
set_option maxRecDepth 100000 in
theorem ab_kc_X9_see_0 : kX9_see.all (ab_chk RX9 3 (decide (yX9_see.name = "<init>")) cX9_see) = true := by decide +kernel
theorem ab_kc_X9_see : kX9_see.all (ab_chk RX9 3 (decide (yX9_see.name = "<init>")) cX9_see) = true := ab_kc_X9_see_0
set_option maxRecDepth 100000 in
theorem ab_kc_X9_forget_0 : kX9_forget.all (ab_chk RX9 3 (decide (yX9_forget.name = "<init>")) cX9_forget) = true := by decide +kernel
theorem ab_kc_X9_forget : kX9_forget.all (ab_chk RX9 3 (decide (yX9_forget.name = "<init>")) cX9_forget) = true := ab_kc_X9_forget_0
set_option maxRecDepth 100000 in
theorem ab_kc_X9_isAsSeen_0 : kX9_isAsSeen.all (ab_chk RX9 5 (decide (yX9_isAsSeen.name = "<init>")) cX9_isAsSeen) = true := by decide +kernel
theorem ab_kc_X9_isAsSeen : kX9_isAsSeen.all (ab_chk RX9 5 (decide (yX9_isAsSeen.name = "<init>")) cX9_isAsSeen) = true := ab_kc_X9_isAsSeen_0
set_option maxRecDepth 100000 in
theorem ab_kc_X9_fits_0 : kX9_fits_q0.all (ab_chk RX9 8 (decide (yX9_fits.name = "<init>")) cX9_fits) = true := by decide +kernel
set_option maxRecDepth 100000 in
theorem ab_kc_X9_fits_1 : kX9_fits_q1.all (ab_chk RX9 8 (decide (yX9_fits.name = "<init>")) cX9_fits) = true := by decide +kernel
theorem ab_kc_X9_fits : kX9_fits.all (ab_chk RX9 8 (decide (yX9_fits.name = "<init>")) cX9_fits) = true := by
  simp only [kX9_fits, List.all_append, ab_kc_X9_fits_0, ab_kc_X9_fits_1, Bool.and_self]
set_option maxRecDepth 100000 in
theorem ab_kc_X9_draws_0 : kX9_draws.all (ab_chk RX9 2 (decide (yX9_draws.name = "<init>")) cX9_draws) = true := by decide +kernel
theorem ab_kc_X9_draws : kX9_draws.all (ab_chk RX9 2 (decide (yX9_draws.name = "<init>")) cX9_draws) = true := ab_kc_X9_draws_0
set_option maxRecDepth 100000 in
theorem ab_kc_X9_drift_0 : kX9_drift_q0.all (ab_chk RX9 8 (decide (yX9_drift.name = "<init>")) cX9_drift) = true := by decide +kernel
set_option maxRecDepth 100000 in
theorem ab_kc_X9_drift_1 : kX9_drift_q1.all (ab_chk RX9 8 (decide (yX9_drift.name = "<init>")) cX9_drift) = true := by decide +kernel
theorem ab_kc_X9_drift : kX9_drift.all (ab_chk RX9 8 (decide (yX9_drift.name = "<init>")) cX9_drift) = true := by
  simp only [kX9_drift, List.all_append, ab_kc_X9_drift_0, ab_kc_X9_drift_1, Bool.and_self]
set_option maxRecDepth 100000 in
theorem ab_kc_X9_keep_0 : kX9_keep.all (ab_chk RX9 3 (decide (yX9_keep.name = "<init>")) cX9_keep) = true := by decide +kernel
theorem ab_kc_X9_keep : kX9_keep.all (ab_chk RX9 3 (decide (yX9_keep.name = "<init>")) cX9_keep) = true := ab_kc_X9_keep_0
set_option maxRecDepth 100000 in
theorem ab_kc_X9_back_0 : kX9_back.all (ab_chk RX9 2 (decide (yX9_back.name = "<init>")) cX9_back) = true := by decide +kernel
theorem ab_kc_X9_back : kX9_back.all (ab_chk RX9 2 (decide (yX9_back.name = "<init>")) cX9_back) = true := ab_kc_X9_back_0
set_option maxRecDepth 100000 in
theorem ab_kc_X9_sheet_0 : kX9_sheet.all (ab_chk RX9 5 (decide (yX9_sheet.name = "<init>")) cX9_sheet) = true := by decide +kernel
theorem ab_kc_X9_sheet : kX9_sheet.all (ab_chk RX9 5 (decide (yX9_sheet.name = "<init>")) cX9_sheet) = true := ab_kc_X9_sheet_0
set_option maxRecDepth 100000 in
theorem ab_kc_X9_lay_0 : kX9_lay_q0.all (ab_chk RX9 4 (decide (yX9_lay.name = "<init>")) cX9_lay) = true := by decide +kernel
set_option maxRecDepth 100000 in
theorem ab_kc_X9_lay_1 : kX9_lay_q1.all (ab_chk RX9 4 (decide (yX9_lay.name = "<init>")) cX9_lay) = true := by decide +kernel
theorem ab_kc_X9_lay : kX9_lay.all (ab_chk RX9 4 (decide (yX9_lay.name = "<init>")) cX9_lay) = true := by
  simp only [kX9_lay, List.all_append, ab_kc_X9_lay_0, ab_kc_X9_lay_1, Bool.and_self]
set_option maxRecDepth 100000 in
theorem ab_kc_X9_read_0 : kX9_read_q0.all (ab_chk RX9 9 (decide (yX9_read.name = "<init>")) cX9_read) = true := by decide +kernel
set_option maxRecDepth 100000 in
theorem ab_kc_X9_read_1 : kX9_read_q1.all (ab_chk RX9 9 (decide (yX9_read.name = "<init>")) cX9_read) = true := by decide +kernel
theorem ab_kc_X9_read : kX9_read.all (ab_chk RX9 9 (decide (yX9_read.name = "<init>")) cX9_read) = true := by
  simp only [kX9_read, List.all_append, ab_kc_X9_read_0, ab_kc_X9_read_1, Bool.and_self]
set_option maxRecDepth 100000 in
theorem ab_kc_X9_torn_0 : kX9_torn.all (ab_chk RX9 1 (decide (yX9_torn.name = "<init>")) cX9_torn) = true := by decide +kernel
theorem ab_kc_X9_torn : kX9_torn.all (ab_chk RX9 1 (decide (yX9_torn.name = "<init>")) cX9_torn) = true := ab_kc_X9_torn_0
set_option maxRecDepth 100000 in
theorem ab_kc_X9_count_0 : kX9_count_q0.all (ab_chk RX9 5 (decide (yX9_count.name = "<init>")) cX9_count) = true := by decide +kernel
set_option maxRecDepth 100000 in
theorem ab_kc_X9_count_1 : kX9_count_q1.all (ab_chk RX9 5 (decide (yX9_count.name = "<init>")) cX9_count) = true := by decide +kernel
theorem ab_kc_X9_count : kX9_count.all (ab_chk RX9 5 (decide (yX9_count.name = "<init>")) cX9_count) = true := by
  simp only [kX9_count, List.all_append, ab_kc_X9_count_0, ab_kc_X9_count_1, Bool.and_self]
set_option maxRecDepth 100000 in
theorem ab_kc_J6_bitCount_0f7a4_0 : kJ6_bitCount_0f7a4.all (ab_chk RJ6 1 (decide (yJ6_bitCount_0f7a4.name = "<init>")) cJ6_bitCount_0f7a4) = true := by decide +kernel
theorem ab_kc_J6_bitCount_0f7a4 : kJ6_bitCount_0f7a4.all (ab_chk RJ6 1 (decide (yJ6_bitCount_0f7a4.name = "<init>")) cJ6_bitCount_0f7a4) = true := ab_kc_J6_bitCount_0f7a4_0
set_option maxRecDepth 100000 in
theorem ab_kc_J9_abs_0f7a4_0 : kJ9_abs_0f7a4.all (ab_chk RJ9 1 (decide (yJ9_abs_0f7a4.name = "<init>")) cJ9_abs_0f7a4) = true := by decide +kernel
theorem ab_kc_J9_abs_0f7a4 : kJ9_abs_0f7a4.all (ab_chk RJ9 1 (decide (yJ9_abs_0f7a4.name = "<init>")) cJ9_abs_0f7a4) = true := ab_kc_J9_abs_0f7a4_0
set_option maxRecDepth 100000 in
theorem ab_kc_J9_max_7cf53_0 : kJ9_max_7cf53.all (ab_chk RJ9 2 (decide (yJ9_max_7cf53.name = "<init>")) cJ9_max_7cf53) = true := by decide +kernel
theorem ab_kc_J9_max_7cf53 : kJ9_max_7cf53.all (ab_chk RJ9 2 (decide (yJ9_max_7cf53.name = "<init>")) cJ9_max_7cf53) = true := ab_kc_J9_max_7cf53_0
set_option maxRecDepth 100000 in
theorem ab_kc_J9_max_f86c9_0 : kJ9_max_f86c9.all (ab_chk RJ9 4 (decide (yJ9_max_f86c9.name = "<init>")) cJ9_max_f86c9) = true := by decide +kernel
theorem ab_kc_J9_max_f86c9 : kJ9_max_f86c9.all (ab_chk RJ9 4 (decide (yJ9_max_f86c9.name = "<init>")) cJ9_max_f86c9) = true := ab_kc_J9_max_f86c9_0
set_option maxRecDepth 100000 in
theorem ab_kc_J9_min_7cf53_0 : kJ9_min_7cf53.all (ab_chk RJ9 2 (decide (yJ9_min_7cf53.name = "<init>")) cJ9_min_7cf53) = true := by decide +kernel
theorem ab_kc_J9_min_7cf53 : kJ9_min_7cf53.all (ab_chk RJ9 2 (decide (yJ9_min_7cf53.name = "<init>")) cJ9_min_7cf53) = true := ab_kc_J9_min_7cf53_0
set_option maxRecDepth 100000 in
theorem ab_kc_J0_length_8abf5_0 : kJ0_length_8abf5.all (ab_chk RJ0 1 (decide (yJ0_length_8abf5.name = "<init>")) cJ0_length_8abf5) = true := by decide +kernel
theorem ab_kc_J0_length_8abf5 : kJ0_length_8abf5.all (ab_chk RJ0 1 (decide (yJ0_length_8abf5.name = "<init>")) cJ0_length_8abf5) = true := ab_kc_J0_length_8abf5_0
set_option maxRecDepth 100000 in
theorem ab_kc_J0_charAt_5068e_0 : kJ0_charAt_5068e.all (ab_chk RJ0 2 (decide (yJ0_charAt_5068e.name = "<init>")) cJ0_charAt_5068e) = true := by decide +kernel
theorem ab_kc_J0_charAt_5068e : kJ0_charAt_5068e.all (ab_chk RJ0 2 (decide (yJ0_charAt_5068e.name = "<init>")) cJ0_charAt_5068e) = true := ab_kc_J0_charAt_5068e_0
set_option maxRecDepth 100000 in
theorem ab_kc_J0_coder_7d493_0 : kJ0_coder_7d493.all (ab_chk RJ0 1 (decide (yJ0_coder_7d493.name = "<init>")) cJ0_coder_7d493) = true := by decide +kernel
theorem ab_kc_J0_coder_7d493 : kJ0_coder_7d493.all (ab_chk RJ0 1 (decide (yJ0_coder_7d493.name = "<init>")) cJ0_coder_7d493) = true := ab_kc_J0_coder_7d493_0
set_option maxRecDepth 100000 in
theorem ab_kc_J0_isLatin1_aae02_0 : kJ0_isLatin1_aae02.all (ab_chk RJ0 1 (decide (yJ0_isLatin1_aae02.name = "<init>")) cJ0_isLatin1_aae02) = true := by decide +kernel
theorem ab_kc_J0_isLatin1_aae02 : kJ0_isLatin1_aae02.all (ab_chk RJ0 1 (decide (yJ0_isLatin1_aae02.name = "<init>")) cJ0_isLatin1_aae02) = true := ab_kc_J0_isLatin1_aae02_0
set_option maxRecDepth 100000 in
theorem ab_kc_J0_checkIndex_df160_0 : kJ0_checkIndex_df160.all (ab_chk RJ0 2 (decide (yJ0_checkIndex_df160.name = "<init>")) cJ0_checkIndex_df160) = true := by decide +kernel
theorem ab_kc_J0_checkIndex_df160 : kJ0_checkIndex_df160.all (ab_chk RJ0 2 (decide (yJ0_checkIndex_df160.name = "<init>")) cJ0_checkIndex_df160) = true := ab_kc_J0_checkIndex_df160_0
set_option maxRecDepth 100000 in
theorem ab_kc_J1_charAt_3b067_0 : kJ1_charAt_3b067.all (ab_chk RJ1 2 (decide (yJ1_charAt_3b067.name = "<init>")) cJ1_charAt_3b067) = true := by decide +kernel
theorem ab_kc_J1_charAt_3b067 : kJ1_charAt_3b067.all (ab_chk RJ1 2 (decide (yJ1_charAt_3b067.name = "<init>")) cJ1_charAt_3b067) = true := ab_kc_J1_charAt_3b067_0
set_option maxRecDepth 100000 in
theorem ab_kc_J3_checkIndex_8e157_0 : kJ3_checkIndex_8e157.all (ab_chk RJ3 3 (decide (yJ3_checkIndex_8e157.name = "<init>")) cJ3_checkIndex_8e157) = true := by decide +kernel
theorem ab_kc_J3_checkIndex_8e157 : kJ3_checkIndex_8e157.all (ab_chk RJ3 3 (decide (yJ3_checkIndex_8e157.name = "<init>")) cJ3_checkIndex_8e157) = true := ab_kc_J3_checkIndex_8e157_0
set_option maxRecDepth 100000 in
theorem ab_okc_5 : ∀ mi ∈ ab_mt_5, mi.2.2.2.2.2.2.all (ab_chk mi.1 mi.2.2.2.1 (decide (mi.2.1.name = "<init>")) mi.2.2.1) = true := List.forall_mem_cons.mpr ⟨ab_kc_X9_byWind, List.forall_mem_cons.mpr ⟨ab_kc_X9_lasts, List.forall_mem_cons.mpr ⟨ab_kc_X9_mean, List.forall_mem_cons.mpr ⟨ab_kc_X9_spent, List.forall_mem_cons.mpr ⟨ab_kc_X9_spend, List.forall_mem_cons.mpr ⟨ab_kc_X9_see, List.forall_mem_cons.mpr ⟨ab_kc_X9_forget, List.forall_mem_cons.mpr ⟨ab_kc_X9_isAsSeen, List.forall_mem_cons.mpr ⟨ab_kc_X9_fits, List.forall_mem_cons.mpr ⟨ab_kc_X9_draws, List.forall_mem_cons.mpr ⟨ab_kc_X9_drift, List.forall_mem_cons.mpr ⟨ab_kc_X9_keep, List.forall_mem_cons.mpr ⟨ab_kc_X9_back, List.forall_mem_cons.mpr ⟨ab_kc_X9_sheet, List.forall_mem_cons.mpr ⟨ab_kc_X9_lay, List.forall_mem_cons.mpr ⟨ab_kc_X9_read, List.forall_mem_cons.mpr ⟨ab_kc_X9_torn, List.forall_mem_cons.mpr ⟨ab_kc_X9_count, List.forall_mem_cons.mpr ⟨ab_kc_J6_bitCount_0f7a4, List.forall_mem_cons.mpr ⟨ab_kc_J9_abs_0f7a4, List.forall_mem_cons.mpr ⟨ab_kc_J9_max_7cf53, List.forall_mem_cons.mpr ⟨ab_kc_J9_max_f86c9, List.forall_mem_cons.mpr ⟨ab_kc_J9_min_7cf53, List.forall_mem_cons.mpr ⟨ab_kc_J0_length_8abf5, List.forall_mem_cons.mpr ⟨ab_kc_J0_charAt_5068e, List.forall_mem_cons.mpr ⟨ab_kc_J0_coder_7d493, List.forall_mem_cons.mpr ⟨ab_kc_J0_isLatin1_aae02, List.forall_mem_cons.mpr ⟨ab_kc_J0_checkIndex_df160, List.forall_mem_cons.mpr ⟨ab_kc_J1_charAt_3b067, List.forall_mem_cons.mpr ⟨ab_kc_J3_checkIndex_8e157, fun _ h => absurd h List.not_mem_nil⟩⟩⟩⟩⟩⟩⟩⟩⟩⟩⟩⟩⟩⟩⟩⟩⟩⟩⟩⟩⟩⟩⟩⟩⟩⟩⟩⟩⟩⟩
set_option maxRecDepth 100000 in
theorem ab_ok_5 : (ab_mt_5.zip ab_hn_5).all (fun x => ab_okm x.1 x.2) = true := by decide +kernel
theorem ab_okl_5 : ab_mt_5.length = ab_hn_5.length := by decide +kernel
