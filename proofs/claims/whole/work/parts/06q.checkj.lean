/-! the printed code is the code: decided by program -/
set_option maxRecDepth 100000 in
theorem ab_kc_X9_back_0 : kX9_back.all (ab_chk RX9 2 (decide (yX9_back.name = "<init>")) cX9_back) = true := by decide +kernel
theorem ab_kc_X9_back : kX9_back.all (ab_chk RX9 2 (decide (yX9_back.name = "<init>")) cX9_back) = true := ab_kc_X9_back_0
set_option maxRecDepth 100000 in
theorem ab_kc_X9_sheet_0 : kX9_sheet.all (ab_chk RX9 5 (decide (yX9_sheet.name = "<init>")) cX9_sheet) = true := by decide +kernel
theorem ab_kc_X9_sheet : kX9_sheet.all (ab_chk RX9 5 (decide (yX9_sheet.name = "<init>")) cX9_sheet) = true := ab_kc_X9_sheet_0
set_option maxRecDepth 100000 in
theorem ab_kc_X9_lay_0 : kX9_lay_q0.all (ab_chk RX9 4 (decide (yX9_lay.name = "<init>")) cX9_lay) = true := by decide +kernel
set_option maxRecDepth 100000 in
theorem ab_kc_X9_lay_1 : kX9_lay_q1.all (ab_chk RX9 4 (decide (yX9_lay.name = "<init>")) cX9_lay) = true := by decide +kernel
theorem ab_kc_X9_lay : kX9_lay.all (ab_chk RX9 4 (decide (yX9_lay.name = "<init>")) cX9_lay) = true := by
  simp only [kX9_lay, List.all_append, ab_kc_X9_lay_0, ab_kc_X9_lay_1, Bool.and_self]
set_option maxRecDepth 100000 in
theorem ab_kc_X9_read_0 : kX9_read_q0.all (ab_chk RX9 9 (decide (yX9_read.name = "<init>")) cX9_read) = true := by decide +kernel
set_option maxRecDepth 100000 in
theorem ab_kc_X9_read_1 : kX9_read_q1.all (ab_chk RX9 9 (decide (yX9_read.name = "<init>")) cX9_read) = true := by decide +kernel
theorem ab_kc_X9_read : kX9_read.all (ab_chk RX9 9 (decide (yX9_read.name = "<init>")) cX9_read) = true := by
  simp only [kX9_read, List.all_append, ab_kc_X9_read_0, ab_kc_X9_read_1, Bool.and_self]
set_option maxRecDepth 100000 in
theorem ab_kc_X9_torn_0 : kX9_torn.all (ab_chk RX9 1 (decide (yX9_torn.name = "<init>")) cX9_torn) = true := by decide +kernel
theorem ab_kc_X9_torn : kX9_torn.all (ab_chk RX9 1 (decide (yX9_torn.name = "<init>")) cX9_torn) = true := ab_kc_X9_torn_0
set_option maxRecDepth 100000 in
theorem ab_kc_X9_count_0 : kX9_count_q0.all (ab_chk RX9 5 (decide (yX9_count.name = "<init>")) cX9_count) = true := by decide +kernel
set_option maxRecDepth 100000 in
theorem ab_kc_X9_count_1 : kX9_count_q1.all (ab_chk RX9 5 (decide (yX9_count.name = "<init>")) cX9_count) = true := by decide +kernel
theorem ab_kc_X9_count : kX9_count.all (ab_chk RX9 5 (decide (yX9_count.name = "<init>")) cX9_count) = true := by
  simp only [kX9_count, List.all_append, ab_kc_X9_count_0, ab_kc_X9_count_1, Bool.and_self]
set_option maxRecDepth 100000 in
theorem ab_kc_J6_bitCount_0f7a4_0 : kJ6_bitCount_0f7a4.all (ab_chk RJ6 1 (decide (yJ6_bitCount_0f7a4.name = "<init>")) cJ6_bitCount_0f7a4) = true := by decide +kernel
theorem ab_kc_J6_bitCount_0f7a4 : kJ6_bitCount_0f7a4.all (ab_chk RJ6 1 (decide (yJ6_bitCount_0f7a4.name = "<init>")) cJ6_bitCount_0f7a4) = true := ab_kc_J6_bitCount_0f7a4_0
set_option maxRecDepth 100000 in
theorem ab_kc_J9_abs_0f7a4_0 : kJ9_abs_0f7a4.all (ab_chk RJ9 1 (decide (yJ9_abs_0f7a4.name = "<init>")) cJ9_abs_0f7a4) = true := by decide +kernel
theorem ab_kc_J9_abs_0f7a4 : kJ9_abs_0f7a4.all (ab_chk RJ9 1 (decide (yJ9_abs_0f7a4.name = "<init>")) cJ9_abs_0f7a4) = true := ab_kc_J9_abs_0f7a4_0
set_option maxRecDepth 100000 in
theorem ab_kc_J9_max_7cf53_0 : kJ9_max_7cf53.all (ab_chk RJ9 2 (decide (yJ9_max_7cf53.name = "<init>")) cJ9_max_7cf53) = true := by decide +kernel
theorem ab_kc_J9_max_7cf53 : kJ9_max_7cf53.all (ab_chk RJ9 2 (decide (yJ9_max_7cf53.name = "<init>")) cJ9_max_7cf53) = true := ab_kc_J9_max_7cf53_0
set_option maxRecDepth 100000 in
theorem ab_kc_J9_max_f86c9_0 : kJ9_max_f86c9.all (ab_chk RJ9 4 (decide (yJ9_max_f86c9.name = "<init>")) cJ9_max_f86c9) = true := by decide +kernel
theorem ab_kc_J9_max_f86c9 : kJ9_max_f86c9.all (ab_chk RJ9 4 (decide (yJ9_max_f86c9.name = "<init>")) cJ9_max_f86c9) = true := ab_kc_J9_max_f86c9_0
set_option maxRecDepth 100000 in
theorem ab_kc_J9_min_7cf53_0 : kJ9_min_7cf53.all (ab_chk RJ9 2 (decide (yJ9_min_7cf53.name = "<init>")) cJ9_min_7cf53) = true := by decide +kernel
theorem ab_kc_J9_min_7cf53 : kJ9_min_7cf53.all (ab_chk RJ9 2 (decide (yJ9_min_7cf53.name = "<init>")) cJ9_min_7cf53) = true := ab_kc_J9_min_7cf53_0
set_option maxRecDepth 100000 in
theorem ab_kc_J0_length_8abf5_0 : kJ0_length_8abf5.all (ab_chk RJ0 1 (decide (yJ0_length_8abf5.name = "<init>")) cJ0_length_8abf5) = true := by decide +kernel
theorem ab_kc_J0_length_8abf5 : kJ0_length_8abf5.all (ab_chk RJ0 1 (decide (yJ0_length_8abf5.name = "<init>")) cJ0_length_8abf5) = true := ab_kc_J0_length_8abf5_0
set_option maxRecDepth 100000 in
theorem ab_kc_J0_charAt_5068e_0 : kJ0_charAt_5068e.all (ab_chk RJ0 2 (decide (yJ0_charAt_5068e.name = "<init>")) cJ0_charAt_5068e) = true := by decide +kernel
theorem ab_kc_J0_charAt_5068e : kJ0_charAt_5068e.all (ab_chk RJ0 2 (decide (yJ0_charAt_5068e.name = "<init>")) cJ0_charAt_5068e) = true := ab_kc_J0_charAt_5068e_0
set_option maxRecDepth 100000 in
theorem ab_kc_J0_coder_7d493_0 : kJ0_coder_7d493.all (ab_chk RJ0 1 (decide (yJ0_coder_7d493.name = "<init>")) cJ0_coder_7d493) = true := by decide +kernel
theorem ab_kc_J0_coder_7d493 : kJ0_coder_7d493.all (ab_chk RJ0 1 (decide (yJ0_coder_7d493.name = "<init>")) cJ0_coder_7d493) = true := ab_kc_J0_coder_7d493_0
set_option maxRecDepth 100000 in
theorem ab_kc_J0_isLatin1_aae02_0 : kJ0_isLatin1_aae02.all (ab_chk RJ0 1 (decide (yJ0_isLatin1_aae02.name = "<init>")) cJ0_isLatin1_aae02) = true := by decide +kernel
theorem ab_kc_J0_isLatin1_aae02 : kJ0_isLatin1_aae02.all (ab_chk RJ0 1 (decide (yJ0_isLatin1_aae02.name = "<init>")) cJ0_isLatin1_aae02) = true := ab_kc_J0_isLatin1_aae02_0
set_option maxRecDepth 100000 in
theorem ab_kc_J0_checkIndex_df160_0 : kJ0_checkIndex_df160.all (ab_chk RJ0 2 (decide (yJ0_checkIndex_df160.name = "<init>")) cJ0_checkIndex_df160) = true := by decide +kernel
theorem ab_kc_J0_checkIndex_df160 : kJ0_checkIndex_df160.all (ab_chk RJ0 2 (decide (yJ0_checkIndex_df160.name = "<init>")) cJ0_checkIndex_df160) = true := ab_kc_J0_checkIndex_df160_0
set_option maxRecDepth 100000 in
theorem ab_kc_J1_charAt_3b067_0 : kJ1_charAt_3b067.all (ab_chk RJ1 2 (decide (yJ1_charAt_3b067.name = "<init>")) cJ1_charAt_3b067) = true := by decide +kernel
theorem ab_kc_J1_charAt_3b067 : kJ1_charAt_3b067.all (ab_chk RJ1 2 (decide (yJ1_charAt_3b067.name = "<init>")) cJ1_charAt_3b067) = true := ab_kc_J1_charAt_3b067_0
set_option maxRecDepth 100000 in
theorem ab_kc_J3_checkIndex_8e157_0 : kJ3_checkIndex_8e157.all (ab_chk RJ3 3 (decide (yJ3_checkIndex_8e157.name = "<init>")) cJ3_checkIndex_8e157) = true := by decide +kernel
theorem ab_kc_J3_checkIndex_8e157 : kJ3_checkIndex_8e157.all (ab_chk RJ3 3 (decide (yJ3_checkIndex_8e157.name = "<init>")) cJ3_checkIndex_8e157) = true := ab_kc_J3_checkIndex_8e157_0
