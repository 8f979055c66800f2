/-! the printed code is the code: decided by program -/
set_option maxRecDepth 100000 in
theorem ab_kc_X9_init_0 : kX9_init_q0.all (ab_chk RX9 1 (decide (yX9_init.name = "<init>")) cX9_init) = true := by decide +kernel
set_option maxRecDepth 100000 in
theorem ab_kc_X9_init_1 : kX9_init_q1.all (ab_chk RX9 1 (decide (yX9_init.name = "<init>")) cX9_init) = true := by decide +kernel
set_option maxRecDepth 100000 in
theorem ab_kc_X9_init_2 : kX9_init_q2.all (ab_chk RX9 1 (decide (yX9_init.name = "<init>")) cX9_init) = true := by decide +kernel
set_option maxRecDepth 100000 in
theorem ab_kc_X9_init_3 : kX9_init_q3.all (ab_chk RX9 1 (decide (yX9_init.name = "<init>")) cX9_init) = true := by decide +kernel
set_option maxRecDepth 100000 in
theorem ab_kc_X9_init_4 : kX9_init_q4.all (ab_chk RX9 1 (decide (yX9_init.name = "<init>")) cX9_init) = true := by decide +kernel
set_option maxRecDepth 100000 in
theorem ab_kc_X9_init_5 : kX9_init_q5.all (ab_chk RX9 1 (decide (yX9_init.name = "<init>")) cX9_init) = true := by decide +kernel
theorem ab_kc_X9_init : kX9_init.all (ab_chk RX9 1 (decide (yX9_init.name = "<init>")) cX9_init) = true := by
  simp only [kX9_init, List.all_append, ab_kc_X9_init_0, ab_kc_X9_init_1, ab_kc_X9_init_2, ab_kc_X9_init_3, ab_kc_X9_init_4, ab_kc_X9_init_5, Bool.and_self]
set_option maxRecDepth 100000 in
theorem ab_kc_X9_in_0 : kX9_in.all (ab_chk RX9 6 (decide (yX9_in.name = "<init>")) cX9_in) = true := by decide +kernel
theorem ab_kc_X9_in : kX9_in.all (ab_chk RX9 6 (decide (yX9_in.name = "<init>")) cX9_in) = true := ab_kc_X9_in_0
set_option maxRecDepth 100000 in
theorem ab_kc_X9_feed_0 : kX9_feed.all (ab_chk RX9 2 (decide (yX9_feed.name = "<init>")) cX9_feed) = true := by decide +kernel
theorem ab_kc_X9_feed : kX9_feed.all (ab_chk RX9 2 (decide (yX9_feed.name = "<init>")) cX9_feed) = true := ab_kc_X9_feed_0
set_option maxRecDepth 100000 in
theorem ab_kc_X9_end_0 : kX9_end.all (ab_chk RX9 3 (decide (yX9_end.name = "<init>")) cX9_end) = true := by decide +kernel
theorem ab_kc_X9_end : kX9_end.all (ab_chk RX9 3 (decide (yX9_end.name = "<init>")) cX9_end) = true := ab_kc_X9_end_0
set_option maxRecDepth 100000 in
theorem ab_kc_X9_byteAt_0 : kX9_byteAt.all (ab_chk RX9 2 (decide (yX9_byteAt.name = "<init>")) cX9_byteAt) = true := by decide +kernel
theorem ab_kc_X9_byteAt : kX9_byteAt.all (ab_chk RX9 2 (decide (yX9_byteAt.name = "<init>")) cX9_byteAt) = true := ab_kc_X9_byteAt_0
set_option maxRecDepth 100000 in
theorem ab_kc_X9_fails_0 : kX9_fails.all (ab_chk RX9 2 (decide (yX9_fails.name = "<init>")) cX9_fails) = true := by decide +kernel
theorem ab_kc_X9_fails : kX9_fails.all (ab_chk RX9 2 (decide (yX9_fails.name = "<init>")) cX9_fails) = true := ab_kc_X9_fails_0
set_option maxRecDepth 100000 in
theorem ab_kc_X9_nameHere_0 : kX9_nameHere_q0.all (ab_chk RX9 4 (decide (yX9_nameHere.name = "<init>")) cX9_nameHere) = true := by decide +kernel
set_option maxRecDepth 100000 in
theorem ab_kc_X9_nameHere_1 : kX9_nameHere_q1.all (ab_chk RX9 4 (decide (yX9_nameHere.name = "<init>")) cX9_nameHere) = true := by decide +kernel
theorem ab_kc_X9_nameHere : kX9_nameHere.all (ab_chk RX9 4 (decide (yX9_nameHere.name = "<init>")) cX9_nameHere) = true := by
  simp only [kX9_nameHere, List.all_append, ab_kc_X9_nameHere_0, ab_kc_X9_nameHere_1, Bool.and_self]
