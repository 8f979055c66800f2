/-! the printed code is the code: decided by program -/
set_option maxRecDepth 100000 in
theorem ab_kc_X5_readStone_0 : kX5_readStone.all (ab_chk RX5 5 (decide (yX5_readStone.name = "<init>")) cX5_readStone) = true := by decide +kernel
theorem ab_kc_X5_readStone : kX5_readStone.all (ab_chk RX5 5 (decide (yX5_readStone.name = "<init>")) cX5_readStone) = true := ab_kc_X5_readStone_0
set_option maxRecDepth 100000 in
theorem ab_kc_X5_readOven_0 : kX5_readOven.all (ab_chk RX5 4 (decide (yX5_readOven.name = "<init>")) cX5_readOven) = true := by decide +kernel
theorem ab_kc_X5_readOven : kX5_readOven.all (ab_chk RX5 4 (decide (yX5_readOven.name = "<init>")) cX5_readOven) = true := ab_kc_X5_readOven_0
set_option maxRecDepth 100000 in
theorem ab_kc_X5_readWind_0 : kX5_readWind.all (ab_chk RX5 3 (decide (yX5_readWind.name = "<init>")) cX5_readWind) = true := by decide +kernel
theorem ab_kc_X5_readWind : kX5_readWind.all (ab_chk RX5 3 (decide (yX5_readWind.name = "<init>")) cX5_readWind) = true := ab_kc_X5_readWind_0
set_option maxRecDepth 100000 in
theorem ab_kc_X5_readPrice_0 : kX5_readPrice.all (ab_chk RX5 4 (decide (yX5_readPrice.name = "<init>")) cX5_readPrice) = true := by decide +kernel
theorem ab_kc_X5_readPrice : kX5_readPrice.all (ab_chk RX5 4 (decide (yX5_readPrice.name = "<init>")) cX5_readPrice) = true := ab_kc_X5_readPrice_0
set_option maxRecDepth 100000 in
theorem ab_kc_X5_readDebt_0 : kX5_readDebt.all (ab_chk RX5 5 (decide (yX5_readDebt.name = "<init>")) cX5_readDebt) = true := by decide +kernel
theorem ab_kc_X5_readDebt : kX5_readDebt.all (ab_chk RX5 5 (decide (yX5_readDebt.name = "<init>")) cX5_readDebt) = true := ab_kc_X5_readDebt_0
set_option maxRecDepth 100000 in
theorem ab_kc_X6_init_0 : kX6_init.all (ab_chk RX6 1 (decide (yX6_init.name = "<init>")) cX6_init) = true := by decide +kernel
theorem ab_kc_X6_init : kX6_init.all (ab_chk RX6 1 (decide (yX6_init.name = "<init>")) cX6_init) = true := ab_kc_X6_init_0
set_option maxRecDepth 100000 in
theorem ab_kc_X6_leastWalks_0 : kX6_leastWalks.all (ab_chk RX6 5 (decide (yX6_leastWalks.name = "<init>")) cX6_leastWalks) = true := by decide +kernel
theorem ab_kc_X6_leastWalks : kX6_leastWalks.all (ab_chk RX6 5 (decide (yX6_leastWalks.name = "<init>")) cX6_leastWalks) = true := ab_kc_X6_leastWalks_0
set_option maxRecDepth 100000 in
theorem ab_kc_X6_orPebble_0 : kX6_orPebble.all (ab_chk RX6 1 (decide (yX6_orPebble.name = "<init>")) cX6_orPebble) = true := by decide +kernel
theorem ab_kc_X6_orPebble : kX6_orPebble.all (ab_chk RX6 1 (decide (yX6_orPebble.name = "<init>")) cX6_orPebble) = true := ab_kc_X6_orPebble_0
set_option maxRecDepth 100000 in
theorem ab_kc_X6_clearRow_0 : kX6_clearRow.all (ab_chk RX6 2 (decide (yX6_clearRow.name = "<init>")) cX6_clearRow) = true := by decide +kernel
theorem ab_kc_X6_clearRow : kX6_clearRow.all (ab_chk RX6 2 (decide (yX6_clearRow.name = "<init>")) cX6_clearRow) = true := ab_kc_X6_clearRow_0
set_option maxRecDepth 100000 in
theorem ab_kc_X6_stay_0 : kX6_stay.all (ab_chk RX6 2 (decide (yX6_stay.name = "<init>")) cX6_stay) = true := by decide +kernel
theorem ab_kc_X6_stay : kX6_stay.all (ab_chk RX6 2 (decide (yX6_stay.name = "<init>")) cX6_stay) = true := ab_kc_X6_stay_0
set_option maxRecDepth 100000 in
theorem ab_kc_X6_walkOnce_0 : kX6_walkOnce.all (ab_chk RX6 4 (decide (yX6_walkOnce.name = "<init>")) cX6_walkOnce) = true := by decide +kernel
theorem ab_kc_X6_walkOnce : kX6_walkOnce.all (ab_chk RX6 4 (decide (yX6_walkOnce.name = "<init>")) cX6_walkOnce) = true := ab_kc_X6_walkOnce_0
set_option maxRecDepth 100000 in
theorem ab_kc_X6_walkedUntil_0 : kX6_walkedUntil.all (ab_chk RX6 7 (decide (yX6_walkedUntil.name = "<init>")) cX6_walkedUntil) = true := by decide +kernel
theorem ab_kc_X6_walkedUntil : kX6_walkedUntil.all (ab_chk RX6 7 (decide (yX6_walkedUntil.name = "<init>")) cX6_walkedUntil) = true := ab_kc_X6_walkedUntil_0
set_option maxRecDepth 100000 in
theorem ab_kc_X7_init_0 : kX7_init_q0.all (ab_chk RX7 1 (decide (yX7_init.name = "<init>")) cX7_init) = true := by decide +kernel
set_option maxRecDepth 100000 in
theorem ab_kc_X7_init_1 : kX7_init_q1.all (ab_chk RX7 1 (decide (yX7_init.name = "<init>")) cX7_init) = true := by decide +kernel
theorem ab_kc_X7_init : kX7_init.all (ab_chk RX7 1 (decide (yX7_init.name = "<init>")) cX7_init) = true := by
  simp only [kX7_init, List.all_append, ab_kc_X7_init_0, ab_kc_X7_init_1, Bool.and_self]
set_option maxRecDepth 100000 in
theorem ab_kc_X7_clear_0 : kX7_clear.all (ab_chk RX7 2 (decide (yX7_clear.name = "<init>")) cX7_clear) = true := by decide +kernel
theorem ab_kc_X7_clear : kX7_clear.all (ab_chk RX7 2 (decide (yX7_clear.name = "<init>")) cX7_clear) = true := ab_kc_X7_clear_0
set_option maxRecDepth 100000 in
theorem ab_kc_X7_copyFrom_0 : kX7_copyFrom_q0.all (ab_chk RX7 2 (decide (yX7_copyFrom.name = "<init>")) cX7_copyFrom) = true := by decide +kernel
set_option maxRecDepth 100000 in
theorem ab_kc_X7_copyFrom_1 : kX7_copyFrom_q1.all (ab_chk RX7 2 (decide (yX7_copyFrom.name = "<init>")) cX7_copyFrom) = true := by decide +kernel
theorem ab_kc_X7_copyFrom : kX7_copyFrom.all (ab_chk RX7 2 (decide (yX7_copyFrom.name = "<init>")) cX7_copyFrom) = true := by
  simp only [kX7_copyFrom, List.all_append, ab_kc_X7_copyFrom_0, ab_kc_X7_copyFrom_1, Bool.and_self]
set_option maxRecDepth 100000 in
theorem ab_kc_X7_hasOne_0 : kX7_hasOne.all (ab_chk RX7 2 (decide (yX7_hasOne.name = "<init>")) cX7_hasOne) = true := by decide +kernel
theorem ab_kc_X7_hasOne : kX7_hasOne.all (ab_chk RX7 2 (decide (yX7_hasOne.name = "<init>")) cX7_hasOne) = true := ab_kc_X7_hasOne_0
set_option maxRecDepth 100000 in
theorem ab_kc_X7_hasStone_0 : kX7_hasStone.all (ab_chk RX7 2 (decide (yX7_hasStone.name = "<init>")) cX7_hasStone) = true := by decide +kernel
theorem ab_kc_X7_hasStone : kX7_hasStone.all (ab_chk RX7 2 (decide (yX7_hasStone.name = "<init>")) cX7_hasStone) = true := ab_kc_X7_hasStone_0
set_option maxRecDepth 100000 in
theorem ab_kc_X7_hasDebt_0 : kX7_hasDebt.all (ab_chk RX7 2 (decide (yX7_hasDebt.name = "<init>")) cX7_hasDebt) = true := by decide +kernel
theorem ab_kc_X7_hasDebt : kX7_hasDebt.all (ab_chk RX7 2 (decide (yX7_hasDebt.name = "<init>")) cX7_hasDebt) = true := ab_kc_X7_hasDebt_0
set_option maxRecDepth 100000 in
theorem ab_kc_X7_addOne_0 : kX7_addOne.all (ab_chk RX7 3 (decide (yX7_addOne.name = "<init>")) cX7_addOne) = true := by decide +kernel
theorem ab_kc_X7_addOne : kX7_addOne.all (ab_chk RX7 3 (decide (yX7_addOne.name = "<init>")) cX7_addOne) = true := ab_kc_X7_addOne_0
set_option maxRecDepth 100000 in
theorem ab_kc_X7_addStone_0 : kX7_addStone.all (ab_chk RX7 4 (decide (yX7_addStone.name = "<init>")) cX7_addStone) = true := by decide +kernel
theorem ab_kc_X7_addStone : kX7_addStone.all (ab_chk RX7 4 (decide (yX7_addStone.name = "<init>")) cX7_addStone) = true := ab_kc_X7_addStone_0
set_option maxRecDepth 100000 in
theorem ab_kc_X7_addDebt_0 : kX7_addDebt.all (ab_chk RX7 4 (decide (yX7_addDebt.name = "<init>")) cX7_addDebt) = true := by decide +kernel
theorem ab_kc_X7_addDebt : kX7_addDebt.all (ab_chk RX7 4 (decide (yX7_addDebt.name = "<init>")) cX7_addDebt) = true := ab_kc_X7_addDebt_0
set_option maxRecDepth 100000 in
theorem ab_kc_X7_namesOnlyItsPeople_0 : kX7_namesOnlyItsPeople.all (ab_chk RX7 2 (decide (yX7_namesOnlyItsPeople.name = "<init>")) cX7_namesOnlyItsPeople) = true := by decide +kernel
theorem ab_kc_X7_namesOnlyItsPeople : kX7_namesOnlyItsPeople.all (ab_chk RX7 2 (decide (yX7_namesOnlyItsPeople.name = "<init>")) cX7_namesOnlyItsPeople) = true := ab_kc_X7_namesOnlyItsPeople_0
set_option maxRecDepth 100000 in
theorem ab_kc_X7_stonesOf_0 : kX7_stonesOf.all (ab_chk RX7 4 (decide (yX7_stonesOf.name = "<init>")) cX7_stonesOf) = true := by decide +kernel
theorem ab_kc_X7_stonesOf : kX7_stonesOf.all (ab_chk RX7 4 (decide (yX7_stonesOf.name = "<init>")) cX7_stonesOf) = true := ab_kc_X7_stonesOf_0
set_option maxRecDepth 100000 in
theorem ab_kc_X7_warmthOf_0 : kX7_warmthOf.all (ab_chk RX7 4 (decide (yX7_warmthOf.name = "<init>")) cX7_warmthOf) = true := by decide +kernel
theorem ab_kc_X7_warmthOf : kX7_warmthOf.all (ab_chk RX7 4 (decide (yX7_warmthOf.name = "<init>")) cX7_warmthOf) = true := ab_kc_X7_warmthOf_0
set_option maxRecDepth 100000 in
theorem ab_kc_X7_allWarmth_0 : kX7_allWarmth.all (ab_chk RX7 3 (decide (yX7_allWarmth.name = "<init>")) cX7_allWarmth) = true := by decide +kernel
theorem ab_kc_X7_allWarmth : kX7_allWarmth.all (ab_chk RX7 3 (decide (yX7_allWarmth.name = "<init>")) cX7_allWarmth) = true := ab_kc_X7_allWarmth_0
set_option maxRecDepth 100000 in
theorem ab_kc_X7_allDebts_0 : kX7_allDebts.all (ab_chk RX7 3 (decide (yX7_allDebts.name = "<init>")) cX7_allDebts) = true := by decide +kernel
theorem ab_kc_X7_allDebts : kX7_allDebts.all (ab_chk RX7 3 (decide (yX7_allDebts.name = "<init>")) cX7_allDebts) = true := ab_kc_X7_allDebts_0
set_option maxRecDepth 100000 in
theorem ab_kc_X7_countWarm_0 : kX7_countWarm.all (ab_chk RX7 3 (decide (yX7_countWarm.name = "<init>")) cX7_countWarm) = true := by decide +kernel
theorem ab_kc_X7_countWarm : kX7_countWarm.all (ab_chk RX7 3 (decide (yX7_countWarm.name = "<init>")) cX7_countWarm) = true := ab_kc_X7_countWarm_0
set_option maxRecDepth 100000 in
theorem ab_kc_X7_rateOf_0 : kX7_rateOf.all (ab_chk RX7 2 (decide (yX7_rateOf.name = "<init>")) cX7_rateOf) = true := by decide +kernel
theorem ab_kc_X7_rateOf : kX7_rateOf.all (ab_chk RX7 2 (decide (yX7_rateOf.name = "<init>")) cX7_rateOf) = true := ab_kc_X7_rateOf_0
set_option maxRecDepth 100000 in
theorem ab_kc_X7_boughtFor_0 : kX7_boughtFor.all (ab_chk RX7 3 (decide (yX7_boughtFor.name = "<init>")) cX7_boughtFor) = true := by decide +kernel
theorem ab_kc_X7_boughtFor : kX7_boughtFor.all (ab_chk RX7 3 (decide (yX7_boughtFor.name = "<init>")) cX7_boughtFor) = true := ab_kc_X7_boughtFor_0
set_option maxRecDepth 100000 in
theorem ab_kc_X7_ovenDistance_0 : kX7_ovenDistance.all (ab_chk RX7 2 (decide (yX7_ovenDistance.name = "<init>")) cX7_ovenDistance) = true := by decide +kernel
theorem ab_kc_X7_ovenDistance : kX7_ovenDistance.all (ab_chk RX7 2 (decide (yX7_ovenDistance.name = "<init>")) cX7_ovenDistance) = true := ab_kc_X7_ovenDistance_0
set_option maxRecDepth 100000 in
theorem ab_kc_X7_minutesBetween_0 : kX7_minutesBetween.all (ab_chk RX7 3 (decide (yX7_minutesBetween.name = "<init>")) cX7_minutesBetween) = true := by decide +kernel
theorem ab_kc_X7_minutesBetween : kX7_minutesBetween.all (ab_chk RX7 3 (decide (yX7_minutesBetween.name = "<init>")) cX7_minutesBetween) = true := ab_kc_X7_minutesBetween_0
set_option maxRecDepth 100000 in
theorem ab_kc_X7_letPass_0 : kX7_letPass.all (ab_chk RX7 3 (decide (yX7_letPass.name = "<init>")) cX7_letPass) = true := by decide +kernel
theorem ab_kc_X7_letPass : kX7_letPass.all (ab_chk RX7 3 (decide (yX7_letPass.name = "<init>")) cX7_letPass) = true := ab_kc_X7_letPass_0
set_option maxRecDepth 100000 in
theorem ab_kc_X7_bake_0 : kX7_bake.all (ab_chk RX7 4 (decide (yX7_bake.name = "<init>")) cX7_bake) = true := by decide +kernel
theorem ab_kc_X7_bake : kX7_bake.all (ab_chk RX7 4 (decide (yX7_bake.name = "<init>")) cX7_bake) = true := ab_kc_X7_bake_0
set_option maxRecDepth 100000 in
theorem ab_kc_X7_refusalToPay_0 : kX7_refusalToPay.all (ab_chk RX7 3 (decide (yX7_refusalToPay.name = "<init>")) cX7_refusalToPay) = true := by decide +kernel
theorem ab_kc_X7_refusalToPay : kX7_refusalToPay.all (ab_chk RX7 3 (decide (yX7_refusalToPay.name = "<init>")) cX7_refusalToPay) = true := ab_kc_X7_refusalToPay_0
set_option maxRecDepth 100000 in
theorem ab_kc_X7_handOver_0 : kX7_handOver.all (ab_chk RX7 5 (decide (yX7_handOver.name = "<init>")) cX7_handOver) = true := by decide +kernel
theorem ab_kc_X7_handOver : kX7_handOver.all (ab_chk RX7 5 (decide (yX7_handOver.name = "<init>")) cX7_handOver) = true := ab_kc_X7_handOver_0
set_option maxRecDepth 100000 in
theorem ab_kc_X7_firstOwed_0 : kX7_firstOwed.all (ab_chk RX7 5 (decide (yX7_firstOwed.name = "<init>")) cX7_firstOwed) = true := by decide +kernel
theorem ab_kc_X7_firstOwed : kX7_firstOwed.all (ab_chk RX7 5 (decide (yX7_firstOwed.name = "<init>")) cX7_firstOwed) = true := ab_kc_X7_firstOwed_0
set_option maxRecDepth 100000 in
theorem ab_kc_X7_lessened_0 : kX7_lessened.all (ab_chk RX7 2 (decide (yX7_lessened.name = "<init>")) cX7_lessened) = true := by decide +kernel
theorem ab_kc_X7_lessened : kX7_lessened.all (ab_chk RX7 2 (decide (yX7_lessened.name = "<init>")) cX7_lessened) = true := ab_kc_X7_lessened_0
set_option maxRecDepth 100000 in
theorem ab_kc_X8_init_0 : kX8_init_q0.all (ab_chk RX8 2 (decide (yX8_init.name = "<init>")) cX8_init) = true := by decide +kernel
set_option maxRecDepth 100000 in
theorem ab_kc_X8_init_1 : kX8_init_q1.all (ab_chk RX8 2 (decide (yX8_init.name = "<init>")) cX8_init) = true := by decide +kernel
theorem ab_kc_X8_init : kX8_init.all (ab_chk RX8 2 (decide (yX8_init.name = "<init>")) cX8_init) = true := by
  simp only [kX8_init, List.all_append, ab_kc_X8_init_0, ab_kc_X8_init_1, Bool.and_self]
set_option maxRecDepth 100000 in
theorem ab_kc_X8_feed_0 : kX8_feed.all (ab_chk RX8 2 (decide (yX8_feed.name = "<init>")) cX8_feed) = true := by decide +kernel
theorem ab_kc_X8_feed : kX8_feed.all (ab_chk RX8 2 (decide (yX8_feed.name = "<init>")) cX8_feed) = true := ab_kc_X8_feed_0
set_option maxRecDepth 100000 in
theorem ab_kc_X8_end_0 : kX8_end.all (ab_chk RX8 3 (decide (yX8_end.name = "<init>")) cX8_end) = true := by decide +kernel
theorem ab_kc_X8_end : kX8_end.all (ab_chk RX8 3 (decide (yX8_end.name = "<init>")) cX8_end) = true := ab_kc_X8_end_0
set_option maxRecDepth 100000 in
theorem ab_okc_1 : ∀ mi ∈ ab_mt_1, mi.2.2.2.2.2.2.all (ab_chk mi.1 mi.2.2.2.1 (decide (mi.2.1.name = "<init>")) mi.2.2.1) = true := List.forall_mem_cons.mpr ⟨ab_kc_X5_readStone, List.forall_mem_cons.mpr ⟨ab_kc_X5_readOven, List.forall_mem_cons.mpr ⟨ab_kc_X5_readWind, List.forall_mem_cons.mpr ⟨ab_kc_X5_readPrice, List.forall_mem_cons.mpr ⟨ab_kc_X5_readDebt, List.forall_mem_cons.mpr ⟨ab_kc_X6_init, List.forall_mem_cons.mpr ⟨ab_kc_X6_leastWalks, List.forall_mem_cons.mpr ⟨ab_kc_X6_orPebble, List.forall_mem_cons.mpr ⟨ab_kc_X6_clearRow, List.forall_mem_cons.mpr ⟨ab_kc_X6_stay, List.forall_mem_cons.mpr ⟨ab_kc_X6_walkOnce, List.forall_mem_cons.mpr ⟨ab_kc_X6_walkedUntil, List.forall_mem_cons.mpr ⟨ab_kc_X7_init, List.forall_mem_cons.mpr ⟨ab_kc_X7_clear, List.forall_mem_cons.mpr ⟨ab_kc_X7_copyFrom, List.forall_mem_cons.mpr ⟨ab_kc_X7_hasOne, List.forall_mem_cons.mpr ⟨ab_kc_X7_hasStone, List.forall_mem_cons.mpr ⟨ab_kc_X7_hasDebt, List.forall_mem_cons.mpr ⟨ab_kc_X7_addOne, List.forall_mem_cons.mpr ⟨ab_kc_X7_addStone, List.forall_mem_cons.mpr ⟨ab_kc_X7_addDebt, List.forall_mem_cons.mpr ⟨ab_kc_X7_namesOnlyItsPeople, List.forall_mem_cons.mpr ⟨ab_kc_X7_stonesOf, List.forall_mem_cons.mpr ⟨ab_kc_X7_warmthOf, List.forall_mem_cons.mpr ⟨ab_kc_X7_allWarmth, List.forall_mem_cons.mpr ⟨ab_kc_X7_allDebts, List.forall_mem_cons.mpr ⟨ab_kc_X7_countWarm, List.forall_mem_cons.mpr ⟨ab_kc_X7_rateOf, List.forall_mem_cons.mpr ⟨ab_kc_X7_boughtFor, List.forall_mem_cons.mpr ⟨ab_kc_X7_ovenDistance, List.forall_mem_cons.mpr ⟨ab_kc_X7_minutesBetween, List.forall_mem_cons.mpr ⟨ab_kc_X7_letPass, List.forall_mem_cons.mpr ⟨ab_kc_X7_bake, List.forall_mem_cons.mpr ⟨ab_kc_X7_refusalToPay, List.forall_mem_cons.mpr ⟨ab_kc_X7_handOver, List.forall_mem_cons.mpr ⟨ab_kc_X7_firstOwed, List.forall_mem_cons.mpr ⟨ab_kc_X7_lessened, List.forall_mem_cons.mpr ⟨ab_kc_X8_init, List.forall_mem_cons.mpr ⟨ab_kc_X8_feed, List.forall_mem_cons.mpr ⟨ab_kc_X8_end, fun _ h => absurd h List.not_mem_nil⟩⟩⟩⟩⟩⟩⟩⟩⟩⟩⟩⟩⟩⟩⟩⟩⟩⟩⟩⟩⟩⟩⟩⟩⟩⟩⟩⟩⟩⟩⟩⟩⟩⟩⟩⟩⟩⟩⟩⟩
set_option maxRecDepth 100000 in
theorem ab_ok_1 : (ab_mt_1.zip ab_hn_1).all (fun x => ab_okm x.1 x.2) = true := by decide +kernel
theorem ab_okl_1 : ab_mt_1.length = ab_hn_1.length := by decide +kernel
set_option maxRecDepth 100000 in
theorem ab_kw_X5_readStone : Cond.code yX5_readStone cX5_readStone 5 none ∈ ab_gt := List.mem_filter.mpr ⟨List.mem_of_getElem? (i := 581) rfl, rfl⟩
set_option maxRecDepth 100000 in
theorem ab_kw_X5_readOven : Cond.code yX5_readOven cX5_readOven 4 none ∈ ab_gt := List.mem_filter.mpr ⟨List.mem_of_getElem? (i := 590) rfl, rfl⟩
set_option maxRecDepth 100000 in
theorem ab_kw_X5_readWind : Cond.code yX5_readWind cX5_readWind 3 none ∈ ab_gt := List.mem_filter.mpr ⟨List.mem_of_getElem? (i := 595) rfl, rfl⟩
set_option maxRecDepth 100000 in
theorem ab_kw_X5_readPrice : Cond.code yX5_readPrice cX5_readPrice 4 none ∈ ab_gt := List.mem_filter.mpr ⟨List.mem_of_getElem? (i := 600) rfl, rfl⟩
set_option maxRecDepth 100000 in
theorem ab_kw_X5_readDebt : Cond.code yX5_readDebt cX5_readDebt 5 none ∈ ab_gt := List.mem_filter.mpr ⟨List.mem_of_getElem? (i := 605) rfl, rfl⟩
set_option maxRecDepth 100000 in
theorem ab_kw_X6_init : Cond.code yX6_init cX6_init 1 none ∈ ab_gt := List.mem_filter.mpr ⟨List.mem_of_getElem? (i := 361) rfl, rfl⟩
set_option maxRecDepth 100000 in
theorem ab_kw_X6_leastWalks : Cond.code yX6_leastWalks cX6_leastWalks 5 (some .int) ∈ ab_gt := List.mem_filter.mpr ⟨List.mem_of_getElem? (i := 865) rfl, rfl⟩
set_option maxRecDepth 100000 in
theorem ab_kw_X6_orPebble : Cond.code yX6_orPebble cX6_orPebble 1 (some .int) ∈ ab_gt := List.mem_filter.mpr ⟨List.mem_of_getElem? (i := 878) rfl, rfl⟩
set_option maxRecDepth 100000 in
theorem ab_kw_X6_clearRow : Cond.code yX6_clearRow cX6_clearRow 2 none ∈ ab_gt := List.mem_filter.mpr ⟨List.mem_of_getElem? (i := 875) rfl, rfl⟩
set_option maxRecDepth 100000 in
theorem ab_kw_X6_stay : Cond.code yX6_stay cX6_stay 2 none ∈ ab_gt := List.mem_filter.mpr ⟨List.mem_of_getElem? (i := 883) rfl, rfl⟩
set_option maxRecDepth 100000 in
theorem ab_kw_X6_walkOnce : Cond.code yX6_walkOnce cX6_walkOnce 4 none ∈ ab_gt := List.mem_filter.mpr ⟨List.mem_of_getElem? (i := 888) rfl, rfl⟩
set_option maxRecDepth 100000 in
theorem ab_kw_X6_walkedUntil : Cond.code yX6_walkedUntil cX6_walkedUntil 7 (some .int) ∈ ab_gt := List.mem_filter.mpr ⟨List.mem_of_getElem? (i := 892) rfl, rfl⟩
set_option maxRecDepth 100000 in
theorem ab_kw_X7_init : Cond.code yX7_init cX7_init 1 none ∈ ab_gt := List.mem_filter.mpr ⟨List.mem_of_getElem? (i := 98) rfl, rfl⟩
set_option maxRecDepth 100000 in
theorem ab_kw_X7_clear : Cond.code yX7_clear cX7_clear 2 none ∈ ab_gt := List.mem_filter.mpr ⟨List.mem_of_getElem? (i := 465) rfl, rfl⟩
set_option maxRecDepth 100000 in
theorem ab_kw_X7_copyFrom : Cond.code yX7_copyFrom cX7_copyFrom 2 none ∈ ab_gt := List.mem_filter.mpr ⟨List.mem_of_getElem? (i := 621) rfl, rfl⟩
set_option maxRecDepth 100000 in
theorem ab_kw_X7_hasOne : Cond.code yX7_hasOne cX7_hasOne 2 (some .boolean) ∈ ab_gt := List.mem_filter.mpr ⟨List.mem_of_getElem? (i := 617) rfl, rfl⟩
set_option maxRecDepth 100000 in
theorem ab_kw_X7_hasStone : Cond.code yX7_hasStone cX7_hasStone 2 (some .boolean) ∈ ab_gt := List.mem_filter.mpr ⟨List.mem_of_getElem? (i := 653) rfl, rfl⟩
set_option maxRecDepth 100000 in
theorem ab_kw_X7_hasDebt : Cond.code yX7_hasDebt cX7_hasDebt 2 (some .boolean) ∈ ab_gt := List.mem_filter.mpr ⟨List.mem_of_getElem? (i := 676) rfl, rfl⟩
set_option maxRecDepth 100000 in
theorem ab_kw_X7_addOne : Cond.code yX7_addOne cX7_addOne 3 none ∈ ab_gt := List.mem_filter.mpr ⟨List.mem_of_getElem? (i := 577) rfl, rfl⟩
set_option maxRecDepth 100000 in
theorem ab_kw_X7_addStone : Cond.code yX7_addStone cX7_addStone 4 none ∈ ab_gt := List.mem_filter.mpr ⟨List.mem_of_getElem? (i := 585) rfl, rfl⟩
set_option maxRecDepth 100000 in
theorem ab_kw_X7_addDebt : Cond.code yX7_addDebt cX7_addDebt 4 none ∈ ab_gt := List.mem_filter.mpr ⟨List.mem_of_getElem? (i := 609) rfl, rfl⟩
set_option maxRecDepth 100000 in
theorem ab_kw_X7_namesOnlyItsPeople : Cond.code yX7_namesOnlyItsPeople cX7_namesOnlyItsPeople 2 (some .boolean) ∈ ab_gt := List.mem_filter.mpr ⟨List.mem_of_getElem? (i := 613) rfl, rfl⟩
set_option maxRecDepth 100000 in
theorem ab_kw_X7_stonesOf : Cond.code yX7_stonesOf cX7_stonesOf 4 (some .int) ∈ ab_gt := List.mem_filter.mpr ⟨List.mem_of_getElem? (i := 641) rfl, rfl⟩
set_option maxRecDepth 100000 in
theorem ab_kw_X7_warmthOf : Cond.code yX7_warmthOf cX7_warmthOf 4 (some .int) ∈ ab_gt := List.mem_filter.mpr ⟨List.mem_of_getElem? (i := 645) rfl, rfl⟩
set_option maxRecDepth 100000 in
theorem ab_kw_X7_allWarmth : Cond.code yX7_allWarmth cX7_allWarmth 3 (some .int) ∈ ab_gt := List.mem_filter.mpr ⟨List.mem_of_getElem? (i := 1034) rfl, rfl⟩
set_option maxRecDepth 100000 in
theorem ab_kw_X7_allDebts : Cond.code yX7_allDebts cX7_allDebts 3 (some .int) ∈ ab_gt := List.mem_filter.mpr ⟨List.mem_of_getElem? (i := 1038) rfl, rfl⟩
set_option maxRecDepth 100000 in
theorem ab_kw_X7_countWarm : Cond.code yX7_countWarm cX7_countWarm 3 (some .int) ∈ ab_gt := List.mem_filter.mpr ⟨List.mem_of_getElem? (i := 727) rfl, rfl⟩
set_option maxRecDepth 100000 in
theorem ab_kw_X7_rateOf : Cond.code yX7_rateOf cX7_rateOf 2 (some .int) ∈ ab_gt := List.mem_filter.mpr ⟨List.mem_of_getElem? (i := 657) rfl, rfl⟩
set_option maxRecDepth 100000 in
theorem ab_kw_X7_boughtFor : Cond.code yX7_boughtFor cX7_boughtFor 3 (some .int) ∈ ab_gt := List.mem_filter.mpr ⟨List.mem_of_getElem? (i := 900) rfl, rfl⟩
set_option maxRecDepth 100000 in
theorem ab_kw_X7_ovenDistance : Cond.code yX7_ovenDistance cX7_ovenDistance 2 (some .int) ∈ ab_gt := List.mem_filter.mpr ⟨List.mem_of_getElem? (i := 765) rfl, rfl⟩
set_option maxRecDepth 100000 in
theorem ab_kw_X7_minutesBetween : Cond.code yX7_minutesBetween cX7_minutesBetween 3 (some .int) ∈ ab_gt := List.mem_filter.mpr ⟨List.mem_of_getElem? (i := 741) rfl, rfl⟩
set_option maxRecDepth 100000 in
theorem ab_kw_X7_letPass : Cond.code yX7_letPass cX7_letPass 3 none ∈ ab_gt := List.mem_filter.mpr ⟨List.mem_of_getElem? (i := 716) rfl, rfl⟩
set_option maxRecDepth 100000 in
theorem ab_kw_X7_bake : Cond.code yX7_bake cX7_bake 4 none ∈ ab_gt := List.mem_filter.mpr ⟨List.mem_of_getElem? (i := 769) rfl, rfl⟩
set_option maxRecDepth 100000 in
theorem ab_kw_X7_refusalToPay : Cond.code yX7_refusalToPay cX7_refusalToPay 3 (some .int) ∈ ab_gt := List.mem_filter.mpr ⟨List.mem_of_getElem? (i := 736) rfl, rfl⟩
set_option maxRecDepth 100000 in
theorem ab_kw_X7_handOver : Cond.code yX7_handOver cX7_handOver 5 (some .int) ∈ ab_gt := List.mem_filter.mpr ⟨List.mem_of_getElem? (i := 748) rfl, rfl⟩
set_option maxRecDepth 100000 in
theorem ab_kw_X7_firstOwed : Cond.code yX7_firstOwed cX7_firstOwed 5 (some .int) ∈ ab_gt := List.mem_filter.mpr ⟨List.mem_of_getElem? (i := 753) rfl, rfl⟩
set_option maxRecDepth 100000 in
theorem ab_kw_X7_lessened : Cond.code yX7_lessened cX7_lessened 2 (some .int) ∈ ab_gt := List.mem_filter.mpr ⟨List.mem_of_getElem? (i := 756) rfl, rfl⟩
set_option maxRecDepth 100000 in
theorem ab_kw_X8_init : Cond.code yX8_init cX8_init 2 none ∈ ab_gt := List.mem_filter.mpr ⟨List.mem_of_getElem? (i := 90) rfl, rfl⟩
set_option maxRecDepth 100000 in
theorem ab_kw_X8_feed : Cond.code yX8_feed cX8_feed 2 (some .int) ∈ ab_gt := List.mem_filter.mpr ⟨List.mem_of_getElem? (i := 442) rfl, rfl⟩
set_option maxRecDepth 100000 in
theorem ab_kw_X8_end : Cond.code yX8_end cX8_end 3 (some .int) ∈ ab_gt := List.mem_filter.mpr ⟨List.mem_of_getElem? (i := 453) rfl, rfl⟩
set_option maxRecDepth 100000 in
theorem ab_okw_1 : ∀ mi ∈ ab_mt_1, Cond.code mi.2.1 mi.2.2.1 mi.2.2.2.1 mi.2.2.2.2.1 ∈ ab_gt := List.forall_mem_cons.mpr ⟨ab_kw_X5_readStone, List.forall_mem_cons.mpr ⟨ab_kw_X5_readOven, List.forall_mem_cons.mpr ⟨ab_kw_X5_readWind, List.forall_mem_cons.mpr ⟨ab_kw_X5_readPrice, List.forall_mem_cons.mpr ⟨ab_kw_X5_readDebt, List.forall_mem_cons.mpr ⟨ab_kw_X6_init, List.forall_mem_cons.mpr ⟨ab_kw_X6_leastWalks, List.forall_mem_cons.mpr ⟨ab_kw_X6_orPebble, List.forall_mem_cons.mpr ⟨ab_kw_X6_clearRow, List.forall_mem_cons.mpr ⟨ab_kw_X6_stay, List.forall_mem_cons.mpr ⟨ab_kw_X6_walkOnce, List.forall_mem_cons.mpr ⟨ab_kw_X6_walkedUntil, List.forall_mem_cons.mpr ⟨ab_kw_X7_init, List.forall_mem_cons.mpr ⟨ab_kw_X7_clear, List.forall_mem_cons.mpr ⟨ab_kw_X7_copyFrom, List.forall_mem_cons.mpr ⟨ab_kw_X7_hasOne, List.forall_mem_cons.mpr ⟨ab_kw_X7_hasStone, List.forall_mem_cons.mpr ⟨ab_kw_X7_hasDebt, List.forall_mem_cons.mpr ⟨ab_kw_X7_addOne, List.forall_mem_cons.mpr ⟨ab_kw_X7_addStone, List.forall_mem_cons.mpr ⟨ab_kw_X7_addDebt, List.forall_mem_cons.mpr ⟨ab_kw_X7_namesOnlyItsPeople, List.forall_mem_cons.mpr ⟨ab_kw_X7_stonesOf, List.forall_mem_cons.mpr ⟨ab_kw_X7_warmthOf, List.forall_mem_cons.mpr ⟨ab_kw_X7_allWarmth, List.forall_mem_cons.mpr ⟨ab_kw_X7_allDebts, List.forall_mem_cons.mpr ⟨ab_kw_X7_countWarm, List.forall_mem_cons.mpr ⟨ab_kw_X7_rateOf, List.forall_mem_cons.mpr ⟨ab_kw_X7_boughtFor, List.forall_mem_cons.mpr ⟨ab_kw_X7_ovenDistance, List.forall_mem_cons.mpr ⟨ab_kw_X7_minutesBetween, List.forall_mem_cons.mpr ⟨ab_kw_X7_letPass, List.forall_mem_cons.mpr ⟨ab_kw_X7_bake, List.forall_mem_cons.mpr ⟨ab_kw_X7_refusalToPay, List.forall_mem_cons.mpr ⟨ab_kw_X7_handOver, List.forall_mem_cons.mpr ⟨ab_kw_X7_firstOwed, List.forall_mem_cons.mpr ⟨ab_kw_X7_lessened, List.forall_mem_cons.mpr ⟨ab_kw_X8_init, List.forall_mem_cons.mpr ⟨ab_kw_X8_feed, List.forall_mem_cons.mpr ⟨ab_kw_X8_end, fun _ h => absurd h List.not_mem_nil⟩⟩⟩⟩⟩⟩⟩⟩⟩⟩⟩⟩⟩⟩⟩⟩⟩⟩⟩⟩⟩⟩⟩⟩⟩⟩⟩⟩⟩⟩⟩⟩⟩⟩⟩⟩⟩⟩⟩⟩
