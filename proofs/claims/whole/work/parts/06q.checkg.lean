/-! the printed code is the code: decided by program -/
set_option maxRecDepth 100000 in
theorem ab_kc_X9_copies_0 : kX9_copies.all (ab_chk RX9 4 (decide (yX9_copies.name = "<init>")) cX9_copies) = true := by decide +kernel
theorem ab_kc_X9_copies : kX9_copies.all (ab_chk RX9 4 (decide (yX9_copies.name = "<init>")) cX9_copies) = true := ab_kc_X9_copies_0
set_option maxRecDepth 100000 in
theorem ab_kc_X9_laysRow_0 : kX9_laysRow_q0.all (ab_chk RX9 10 (decide (yX9_laysRow.name = "<init>")) cX9_laysRow) = true := by decide +kernel
set_option maxRecDepth 100000 in
theorem ab_kc_X9_laysRow_1 : kX9_laysRow_q1.all (ab_chk RX9 10 (decide (yX9_laysRow.name = "<init>")) cX9_laysRow) = true := by decide +kernel
theorem ab_kc_X9_laysRow : kX9_laysRow.all (ab_chk RX9 10 (decide (yX9_laysRow.name = "<init>")) cX9_laysRow) = true := by
  simp only [kX9_laysRow, List.all_append, ab_kc_X9_laysRow_0, ab_kc_X9_laysRow_1, Bool.and_self]
set_option maxRecDepth 100000 in
theorem ab_kc_X9_fewestFrom_0 : kX9_fewestFrom_q0.all (ab_chk RX9 7 (decide (yX9_fewestFrom.name = "<init>")) cX9_fewestFrom) = true := by decide +kernel
set_option maxRecDepth 100000 in
theorem ab_kc_X9_fewestFrom_1 : kX9_fewestFrom_q1.all (ab_chk RX9 7 (decide (yX9_fewestFrom.name = "<init>")) cX9_fewestFrom) = true := by decide +kernel
theorem ab_kc_X9_fewestFrom : kX9_fewestFrom.all (ab_chk RX9 7 (decide (yX9_fewestFrom.name = "<init>")) cX9_fewestFrom) = true := by
  simp only [kX9_fewestFrom, List.all_append, ab_kc_X9_fewestFrom_0, ab_kc_X9_fewestFrom_1, Bool.and_self]
set_option maxRecDepth 100000 in
theorem ab_kc_X9_fewest_0 : kX9_fewest.all (ab_chk RX9 4 (decide (yX9_fewest.name = "<init>")) cX9_fewest) = true := by decide +kernel
theorem ab_kc_X9_fewest : kX9_fewest.all (ab_chk RX9 4 (decide (yX9_fewest.name = "<init>")) cX9_fewest) = true := ab_kc_X9_fewest_0
set_option maxRecDepth 100000 in
theorem ab_kc_X9_laysOrder_0 : kX9_laysOrder.all (ab_chk RX9 6 (decide (yX9_laysOrder.name = "<init>")) cX9_laysOrder) = true := by decide +kernel
theorem ab_kc_X9_laysOrder : kX9_laysOrder.all (ab_chk RX9 6 (decide (yX9_laysOrder.name = "<init>")) cX9_laysOrder) = true := ab_kc_X9_laysOrder_0
set_option maxRecDepth 100000 in
theorem ab_kc_X9_settled_0 : kX9_settled_q0.all (ab_chk RX9 4 (decide (yX9_settled.name = "<init>")) cX9_settled) = true := by decide +kernel
set_option maxRecDepth 100000 in
theorem ab_kc_X9_settled_1 : kX9_settled_q1.all (ab_chk RX9 4 (decide (yX9_settled.name = "<init>")) cX9_settled) = true := by decide +kernel
theorem ab_kc_X9_settled : kX9_settled.all (ab_chk RX9 4 (decide (yX9_settled.name = "<init>")) cX9_settled) = true := by
  simp only [kX9_settled, List.all_append, ab_kc_X9_settled_0, ab_kc_X9_settled_1, Bool.and_self]
set_option maxRecDepth 100000 in
theorem ab_kc_X9_settle_0 : kX9_settle_q0.all (ab_chk RX9 7 (decide (yX9_settle.name = "<init>")) cX9_settle) = true := by decide +kernel
set_option maxRecDepth 100000 in
theorem ab_kc_X9_settle_1 : kX9_settle_q1.all (ab_chk RX9 7 (decide (yX9_settle.name = "<init>")) cX9_settle) = true := by decide +kernel
theorem ab_kc_X9_settle : kX9_settle.all (ab_chk RX9 7 (decide (yX9_settle.name = "<init>")) cX9_settle) = true := by
  simp only [kX9_settle, List.all_append, ab_kc_X9_settle_0, ab_kc_X9_settle_1, Bool.and_self]
set_option maxRecDepth 100000 in
theorem ab_kc_X9_wool_0 : kX9_wool.all (ab_chk RX9 4 (decide (yX9_wool.name = "<init>")) cX9_wool) = true := by decide +kernel
theorem ab_kc_X9_wool : kX9_wool.all (ab_chk RX9 4 (decide (yX9_wool.name = "<init>")) cX9_wool) = true := ab_kc_X9_wool_0
set_option maxRecDepth 100000 in
theorem ab_kc_X9_reaches_0 : kX9_reaches.all (ab_chk RX9 4 (decide (yX9_reaches.name = "<init>")) cX9_reaches) = true := by decide +kernel
theorem ab_kc_X9_reaches : kX9_reaches.all (ab_chk RX9 4 (decide (yX9_reaches.name = "<init>")) cX9_reaches) = true := ab_kc_X9_reaches_0
