/-! the printed code is the code: decided by program -/
set_option maxRecDepth 100000 in
theorem ab_kc_X9_walked_0 : kX9_walked.all (ab_chk RX9 8 (decide (yX9_walked.name = "<init>")) cX9_walked) = true := by decide +kernel
theorem ab_kc_X9_walked : kX9_walked.all (ab_chk RX9 8 (decide (yX9_walked.name = "<init>")) cX9_walked) = true := ab_kc_X9_walked_0
set_option maxRecDepth 100000 in
theorem ab_kc_X9_walks_0 : kX9_walks_q0.all (ab_chk RX9 10 (decide (yX9_walks.name = "<init>")) cX9_walks) = true := by decide +kernel
set_option maxRecDepth 100000 in
theorem ab_kc_X9_walks_1 : kX9_walks_q1.all (ab_chk RX9 10 (decide (yX9_walks.name = "<init>")) cX9_walks) = true := by decide +kernel
set_option maxRecDepth 100000 in
theorem ab_kc_X9_walks_2 : kX9_walks_q2.all (ab_chk RX9 10 (decide (yX9_walks.name = "<init>")) cX9_walks) = true := by decide +kernel
theorem ab_kc_X9_walks : kX9_walks.all (ab_chk RX9 10 (decide (yX9_walks.name = "<init>")) cX9_walks) = true := by
  simp only [kX9_walks, List.all_append, ab_kc_X9_walks_0, ab_kc_X9_walks_1, ab_kc_X9_walks_2, Bool.and_self]
set_option maxRecDepth 100000 in
theorem ab_kc_X9_bought_0 : kX9_bought.all (ab_chk RX9 3 (decide (yX9_bought.name = "<init>")) cX9_bought) = true := by decide +kernel
theorem ab_kc_X9_bought : kX9_bought.all (ab_chk RX9 3 (decide (yX9_bought.name = "<init>")) cX9_bought) = true := ab_kc_X9_bought_0
set_option maxRecDepth 100000 in
theorem ab_kc_X9_buys_0 : kX9_buys.all (ab_chk RX9 7 (decide (yX9_buys.name = "<init>")) cX9_buys) = true := by decide +kernel
theorem ab_kc_X9_buys : kX9_buys.all (ab_chk RX9 7 (decide (yX9_buys.name = "<init>")) cX9_buys) = true := ab_kc_X9_buys_0
set_option maxRecDepth 100000 in
theorem ab_kc_X9_lowest_0 : kX9_lowest.all (ab_chk RX9 11 (decide (yX9_lowest.name = "<init>")) cX9_lowest) = true := by decide +kernel
theorem ab_kc_X9_lowest : kX9_lowest.all (ab_chk RX9 11 (decide (yX9_lowest.name = "<init>")) cX9_lowest) = true := ab_kc_X9_lowest_0
set_option maxRecDepth 100000 in
theorem ab_kc_X9_windy_0 : kX9_windy.all (ab_chk RX9 3 (decide (yX9_windy.name = "<init>")) cX9_windy) = true := by decide +kernel
theorem ab_kc_X9_windy : kX9_windy.all (ab_chk RX9 3 (decide (yX9_windy.name = "<init>")) cX9_windy) = true := ab_kc_X9_windy_0
set_option maxRecDepth 100000 in
theorem ab_kc_X9_byWind_0 : kX9_byWind_q0.all (ab_chk RX9 17 (decide (yX9_byWind.name = "<init>")) cX9_byWind) = true := by decide +kernel
set_option maxRecDepth 100000 in
theorem ab_kc_X9_byWind_1 : kX9_byWind_q1.all (ab_chk RX9 17 (decide (yX9_byWind.name = "<init>")) cX9_byWind) = true := by decide +kernel
theorem ab_kc_X9_byWind : kX9_byWind.all (ab_chk RX9 17 (decide (yX9_byWind.name = "<init>")) cX9_byWind) = true := by
  simp only [kX9_byWind, List.all_append, ab_kc_X9_byWind_0, ab_kc_X9_byWind_1, Bool.and_self]
set_option maxRecDepth 100000 in
theorem ab_kc_X9_lasts_0 : kX9_lasts.all (ab_chk RX9 4 (decide (yX9_lasts.name = "<init>")) cX9_lasts) = true := by decide +kernel
theorem ab_kc_X9_lasts : kX9_lasts.all (ab_chk RX9 4 (decide (yX9_lasts.name = "<init>")) cX9_lasts) = true := ab_kc_X9_lasts_0
set_option maxRecDepth 100000 in
theorem ab_kc_X9_mean_0 : kX9_mean.all (ab_chk RX9 4 (decide (yX9_mean.name = "<init>")) cX9_mean) = true := by decide +kernel
theorem ab_kc_X9_mean : kX9_mean.all (ab_chk RX9 4 (decide (yX9_mean.name = "<init>")) cX9_mean) = true := ab_kc_X9_mean_0
