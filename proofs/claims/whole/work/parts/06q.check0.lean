/-! the printed code is the code: decided by program -/
set_option maxRecDepth 100000 in
theorem ab_kc_X0_init_0 : kX0_init.all (ab_chk RX0 1 (decide (yX0_init.name = "<init>")) cX0_init) = true := by decide +kernel
theorem ab_kc_X0_init : kX0_init.all (ab_chk RX0 1 (decide (yX0_init.name = "<init>")) cX0_init) = true := ab_kc_X0_init_0
set_option maxRecDepth 100000 in
theorem ab_kc_X0_find_0 : kX0_find.all (ab_chk RX0 5 (decide (yX0_find.name = "<init>")) cX0_find) = true := by decide +kernel
theorem ab_kc_X0_find : kX0_find.all (ab_chk RX0 5 (decide (yX0_find.name = "<init>")) cX0_find) = true := ab_kc_X0_find_0
set_option maxRecDepth 100000 in
theorem ab_kc_X0_foresee_0 : kX0_foresee.all (ab_chk RX0 7 (decide (yX0_foresee.name = "<init>")) cX0_foresee) = true := by decide +kernel
theorem ab_kc_X0_foresee : kX0_foresee.all (ab_chk RX0 7 (decide (yX0_foresee.name = "<init>")) cX0_foresee) = true := ab_kc_X0_foresee_0
set_option maxRecDepth 100000 in
theorem ab_kc_X0_choose_0 : kX0_choose_q0.all (ab_chk RX0 6 (decide (yX0_choose.name = "<init>")) cX0_choose) = true := by decide +kernel
set_option maxRecDepth 100000 in
theorem ab_kc_X0_choose_1 : kX0_choose_q1.all (ab_chk RX0 6 (decide (yX0_choose.name = "<init>")) cX0_choose) = true := by decide +kernel
theorem ab_kc_X0_choose : kX0_choose.all (ab_chk RX0 6 (decide (yX0_choose.name = "<init>")) cX0_choose) = true := by
  simp only [kX0_choose, List.all_append, ab_kc_X0_choose_0, ab_kc_X0_choose_1, Bool.and_self]
set_option maxRecDepth 100000 in
theorem ab_kc_X0_lessen_0 : kX0_lessen.all (ab_chk RX0 6 (decide (yX0_lessen.name = "<init>")) cX0_lessen) = true := by decide +kernel
theorem ab_kc_X0_lessen : kX0_lessen.all (ab_chk RX0 6 (decide (yX0_lessen.name = "<init>")) cX0_lessen) = true := ab_kc_X0_lessen_0
set_option maxRecDepth 100000 in
theorem ab_kc_X1_init_0 : kX1_init.all (ab_chk RX1 1 (decide (yX1_init.name = "<init>")) cX1_init) = true := by decide +kernel
theorem ab_kc_X1_init : kX1_init.all (ab_chk RX1 1 (decide (yX1_init.name = "<init>")) cX1_init) = true := ab_kc_X1_init_0
set_option maxRecDepth 100000 in
theorem ab_kc_X1_find_0 : kX1_find.all (ab_chk RX1 4 (decide (yX1_find.name = "<init>")) cX1_find) = true := by decide +kernel
theorem ab_kc_X1_find : kX1_find.all (ab_chk RX1 4 (decide (yX1_find.name = "<init>")) cX1_find) = true := ab_kc_X1_find_0
set_option maxRecDepth 100000 in
theorem ab_kc_X1_step_0 : kX1_step_q0.all (ab_chk RX1 10 (decide (yX1_step.name = "<init>")) cX1_step) = true := by decide +kernel
set_option maxRecDepth 100000 in
theorem ab_kc_X1_step_1 : kX1_step_q1.all (ab_chk RX1 10 (decide (yX1_step.name = "<init>")) cX1_step) = true := by decide +kernel
theorem ab_kc_X1_step : kX1_step.all (ab_chk RX1 10 (decide (yX1_step.name = "<init>")) cX1_step) = true := by
  simp only [kX1_step, List.all_append, ab_kc_X1_step_0, ab_kc_X1_step_1, Bool.and_self]
set_option maxRecDepth 100000 in
theorem ab_kc_X1_judge_0 : kX1_judge.all (ab_chk RX1 4 (decide (yX1_judge.name = "<init>")) cX1_judge) = true := by decide +kernel
theorem ab_kc_X1_judge : kX1_judge.all (ab_chk RX1 4 (decide (yX1_judge.name = "<init>")) cX1_judge) = true := ab_kc_X1_judge_0
set_option maxRecDepth 100000 in
theorem ab_kc_X2_init_0 : kX2_init.all (ab_chk RX2 2 (decide (yX2_init.name = "<init>")) cX2_init) = true := by decide +kernel
theorem ab_kc_X2_init : kX2_init.all (ab_chk RX2 2 (decide (yX2_init.name = "<init>")) cX2_init) = true := ab_kc_X2_init_0
set_option maxRecDepth 100000 in
theorem ab_kc_X2_find_0 : kX2_find.all (ab_chk RX2 3 (decide (yX2_find.name = "<init>")) cX2_find) = true := by decide +kernel
theorem ab_kc_X2_find : kX2_find.all (ab_chk RX2 3 (decide (yX2_find.name = "<init>")) cX2_find) = true := ab_kc_X2_find_0
set_option maxRecDepth 100000 in
theorem ab_kc_X2_arrange_0 : kX2_arrange_q0.all (ab_chk RX2 7 (decide (yX2_arrange.name = "<init>")) cX2_arrange) = true := by decide +kernel
set_option maxRecDepth 100000 in
theorem ab_kc_X2_arrange_1 : kX2_arrange_q1.all (ab_chk RX2 7 (decide (yX2_arrange.name = "<init>")) cX2_arrange) = true := by decide +kernel
theorem ab_kc_X2_arrange : kX2_arrange.all (ab_chk RX2 7 (decide (yX2_arrange.name = "<init>")) cX2_arrange) = true := by
  simp only [kX2_arrange, List.all_append, ab_kc_X2_arrange_0, ab_kc_X2_arrange_1, Bool.and_self]
set_option maxRecDepth 100000 in
theorem ab_kc_X2_judge_0 : kX2_judge.all (ab_chk RX2 4 (decide (yX2_judge.name = "<init>")) cX2_judge) = true := by decide +kernel
theorem ab_kc_X2_judge : kX2_judge.all (ab_chk RX2 4 (decide (yX2_judge.name = "<init>")) cX2_judge) = true := ab_kc_X2_judge_0
set_option maxRecDepth 100000 in
theorem ab_kc_X3_init_0 : kX3_init.all (ab_chk RX3 1 (decide (yX3_init.name = "<init>")) cX3_init) = true := by decide +kernel
theorem ab_kc_X3_init : kX3_init.all (ab_chk RX3 1 (decide (yX3_init.name = "<init>")) cX3_init) = true := ab_kc_X3_init_0
set_option maxRecDepth 100000 in
theorem ab_kc_X3_isThere_0 : kX3_isThere.all (ab_chk RX3 1 (decide (yX3_isThere.name = "<init>")) cX3_isThere) = true := by decide +kernel
theorem ab_kc_X3_isThere : kX3_isThere.all (ab_chk RX3 1 (decide (yX3_isThere.name = "<init>")) cX3_isThere) = true := ab_kc_X3_isThere_0
set_option maxRecDepth 100000 in
theorem ab_kc_X3_renew_0 : kX3_renew.all (ab_chk RX3 4 (decide (yX3_renew.name = "<init>")) cX3_renew) = true := by decide +kernel
theorem ab_kc_X3_renew : kX3_renew.all (ab_chk RX3 4 (decide (yX3_renew.name = "<init>")) cX3_renew) = true := ab_kc_X3_renew_0
set_option maxRecDepth 100000 in
theorem ab_kc_X3_faultOfPair_0 : kX3_faultOfPair.all (ab_chk RX3 4 (decide (yX3_faultOfPair.name = "<init>")) cX3_faultOfPair) = true := by decide +kernel
theorem ab_kc_X3_faultOfPair : kX3_faultOfPair.all (ab_chk RX3 4 (decide (yX3_faultOfPair.name = "<init>")) cX3_faultOfPair) = true := ab_kc_X3_faultOfPair_0
set_option maxRecDepth 100000 in
theorem ab_kc_X3_faultOfCells_0 : kX3_faultOfCells.all (ab_chk RX3 4 (decide (yX3_faultOfCells.name = "<init>")) cX3_faultOfCells) = true := by decide +kernel
theorem ab_kc_X3_faultOfCells : kX3_faultOfCells.all (ab_chk RX3 4 (decide (yX3_faultOfCells.name = "<init>")) cX3_faultOfCells) = true := ab_kc_X3_faultOfCells_0
set_option maxRecDepth 100000 in
theorem ab_kc_X3_put_0 : kX3_put.all (ab_chk RX3 3 (decide (yX3_put.name = "<init>")) cX3_put) = true := by decide +kernel
theorem ab_kc_X3_put : kX3_put.all (ab_chk RX3 3 (decide (yX3_put.name = "<init>")) cX3_put) = true := ab_kc_X3_put_0
set_option maxRecDepth 100000 in
theorem ab_kc_X4_init_0 : kX4_init.all (ab_chk RX4 1 (decide (yX4_init.name = "<init>")) cX4_init) = true := by decide +kernel
theorem ab_kc_X4_init : kX4_init.all (ab_chk RX4 1 (decide (yX4_init.name = "<init>")) cX4_init) = true := ab_kc_X4_init_0
set_option maxRecDepth 100000 in
theorem ab_kc_X4_append_0 : kX4_append.all (ab_chk RX4 3 (decide (yX4_append.name = "<init>")) cX4_append) = true := by decide +kernel
theorem ab_kc_X4_append : kX4_append.all (ab_chk RX4 3 (decide (yX4_append.name = "<init>")) cX4_append) = true := ab_kc_X4_append_0
set_option maxRecDepth 100000 in
theorem ab_kc_X4_match_0 : kX4_match_q0.all (ab_chk RX4 4 (decide (yX4_match.name = "<init>")) cX4_match) = true := by decide +kernel
set_option maxRecDepth 100000 in
theorem ab_kc_X4_match_1 : kX4_match_q1.all (ab_chk RX4 4 (decide (yX4_match.name = "<init>")) cX4_match) = true := by decide +kernel
theorem ab_kc_X4_match : kX4_match.all (ab_chk RX4 4 (decide (yX4_match.name = "<init>")) cX4_match) = true := by
  simp only [kX4_match, List.all_append, ab_kc_X4_match_0, ab_kc_X4_match_1, Bool.and_self]
set_option maxRecDepth 100000 in
theorem ab_kc_X4_isPair_0 : kX4_isPair.all (ab_chk RX4 4 (decide (yX4_isPair.name = "<init>")) cX4_isPair) = true := by decide +kernel
theorem ab_kc_X4_isPair : kX4_isPair.all (ab_chk RX4 4 (decide (yX4_isPair.name = "<init>")) cX4_isPair) = true := ab_kc_X4_isPair_0
set_option maxRecDepth 100000 in
theorem ab_kc_X5_init_0 : kX5_init.all (ab_chk RX5 1 (decide (yX5_init.name = "<init>")) cX5_init) = true := by decide +kernel
theorem ab_kc_X5_init : kX5_init.all (ab_chk RX5 1 (decide (yX5_init.name = "<init>")) cX5_init) = true := ab_kc_X5_init_0
set_option maxRecDepth 100000 in
theorem ab_kc_X5_append_0 : kX5_append.all (ab_chk RX5 2 (decide (yX5_append.name = "<init>")) cX5_append) = true := by decide +kernel
theorem ab_kc_X5_append : kX5_append.all (ab_chk RX5 2 (decide (yX5_append.name = "<init>")) cX5_append) = true := ab_kc_X5_append_0
set_option maxRecDepth 100000 in
theorem ab_kc_X5_tell_0 : kX5_tell.all (ab_chk RX5 4 (decide (yX5_tell.name = "<init>")) cX5_tell) = true := by decide +kernel
theorem ab_kc_X5_tell : kX5_tell.all (ab_chk RX5 4 (decide (yX5_tell.name = "<init>")) cX5_tell) = true := ab_kc_X5_tell_0
set_option maxRecDepth 100000 in
theorem ab_kc_X5_blame_0 : kX5_blame.all (ab_chk RX5 3 (decide (yX5_blame.name = "<init>")) cX5_blame) = true := by decide +kernel
theorem ab_kc_X5_blame : kX5_blame.all (ab_chk RX5 3 (decide (yX5_blame.name = "<init>")) cX5_blame) = true := ab_kc_X5_blame_0
set_option maxRecDepth 100000 in
theorem ab_kc_X5_nextToken_0 : kX5_nextToken_q0.all (ab_chk RX5 1 (decide (yX5_nextToken.name = "<init>")) cX5_nextToken) = true := by decide +kernel
set_option maxRecDepth 100000 in
theorem ab_kc_X5_nextToken_1 : kX5_nextToken_q1.all (ab_chk RX5 1 (decide (yX5_nextToken.name = "<init>")) cX5_nextToken) = true := by decide +kernel
theorem ab_kc_X5_nextToken : kX5_nextToken.all (ab_chk RX5 1 (decide (yX5_nextToken.name = "<init>")) cX5_nextToken) = true := by
  simp only [kX5_nextToken, List.all_append, ab_kc_X5_nextToken_0, ab_kc_X5_nextToken_1, Bool.and_self]
set_option maxRecDepth 100000 in
theorem ab_kc_X5_isLetter_0 : kX5_isLetter.all (ab_chk RX5 1 (decide (yX5_isLetter.name = "<init>")) cX5_isLetter) = true := by decide +kernel
theorem ab_kc_X5_isLetter : kX5_isLetter.all (ab_chk RX5 1 (decide (yX5_isLetter.name = "<init>")) cX5_isLetter) = true := ab_kc_X5_isLetter_0
set_option maxRecDepth 100000 in
theorem ab_kc_X5_isFigure_0 : kX5_isFigure.all (ab_chk RX5 1 (decide (yX5_isFigure.name = "<init>")) cX5_isFigure) = true := by decide +kernel
theorem ab_kc_X5_isFigure : kX5_isFigure.all (ab_chk RX5 1 (decide (yX5_isFigure.name = "<init>")) cX5_isFigure) = true := ab_kc_X5_isFigure_0
set_option maxRecDepth 100000 in
theorem ab_kc_X5_skipBlanks_0 : kX5_skipBlanks.all (ab_chk RX5 1 (decide (yX5_skipBlanks.name = "<init>")) cX5_skipBlanks) = true := by decide +kernel
theorem ab_kc_X5_skipBlanks : kX5_skipBlanks.all (ab_chk RX5 1 (decide (yX5_skipBlanks.name = "<init>")) cX5_skipBlanks) = true := ab_kc_X5_skipBlanks_0
set_option maxRecDepth 100000 in
theorem ab_kc_X5_skipLetters_0 : kX5_skipLetters.all (ab_chk RX5 1 (decide (yX5_skipLetters.name = "<init>")) cX5_skipLetters) = true := by decide +kernel
theorem ab_kc_X5_skipLetters : kX5_skipLetters.all (ab_chk RX5 1 (decide (yX5_skipLetters.name = "<init>")) cX5_skipLetters) = true := ab_kc_X5_skipLetters_0
set_option maxRecDepth 100000 in
theorem ab_kc_X5_takeFigures_0 : kX5_takeFigures.all (ab_chk RX5 1 (decide (yX5_takeFigures.name = "<init>")) cX5_takeFigures) = true := by decide +kernel
theorem ab_kc_X5_takeFigures : kX5_takeFigures.all (ab_chk RX5 1 (decide (yX5_takeFigures.name = "<init>")) cX5_takeFigures) = true := ab_kc_X5_takeFigures_0
set_option maxRecDepth 100000 in
theorem ab_kc_X5_isName_0 : kX5_isName.all (ab_chk RX5 3 (decide (yX5_isName.name = "<init>")) cX5_isName) = true := by decide +kernel
theorem ab_kc_X5_isName : kX5_isName.all (ab_chk RX5 3 (decide (yX5_isName.name = "<init>")) cX5_isName) = true := ab_kc_X5_isName_0
set_option maxRecDepth 100000 in
theorem ab_kc_X5_kindNamed_0 : kX5_kindNamed.all (ab_chk RX5 1 (decide (yX5_kindNamed.name = "<init>")) cX5_kindNamed) = true := by decide +kernel
theorem ab_kc_X5_kindNamed : kX5_kindNamed.all (ab_chk RX5 1 (decide (yX5_kindNamed.name = "<init>")) cX5_kindNamed) = true := ab_kc_X5_kindNamed_0
set_option maxRecDepth 100000 in
theorem ab_kc_X5_readLine_0 : kX5_readLine.all (ab_chk RX5 3 (decide (yX5_readLine.name = "<init>")) cX5_readLine) = true := by decide +kernel
theorem ab_kc_X5_readLine : kX5_readLine.all (ab_chk RX5 3 (decide (yX5_readLine.name = "<init>")) cX5_readLine) = true := ab_kc_X5_readLine_0
set_option maxRecDepth 100000 in
theorem ab_kc_X5_refuse_0 : kX5_refuse.all (ab_chk RX5 3 (decide (yX5_refuse.name = "<init>")) cX5_refuse) = true := by decide +kernel
theorem ab_kc_X5_refuse : kX5_refuse.all (ab_chk RX5 3 (decide (yX5_refuse.name = "<init>")) cX5_refuse) = true := ab_kc_X5_refuse_0
set_option maxRecDepth 100000 in
theorem ab_kc_X5_readNumber_0 : kX5_readNumber.all (ab_chk RX5 3 (decide (yX5_readNumber.name = "<init>")) cX5_readNumber) = true := by decide +kernel
theorem ab_kc_X5_readNumber : kX5_readNumber.all (ab_chk RX5 3 (decide (yX5_readNumber.name = "<init>")) cX5_readNumber) = true := ab_kc_X5_readNumber_0
set_option maxRecDepth 100000 in
theorem ab_kc_X5_readSemicolon_0 : kX5_readSemicolon.all (ab_chk RX5 1 (decide (yX5_readSemicolon.name = "<init>")) cX5_readSemicolon) = true := by decide +kernel
theorem ab_kc_X5_readSemicolon : kX5_readSemicolon.all (ab_chk RX5 1 (decide (yX5_readSemicolon.name = "<init>")) cX5_readSemicolon) = true := ab_kc_X5_readSemicolon_0
set_option maxRecDepth 100000 in
theorem ab_kc_X5_readMan_0 : kX5_readMan.all (ab_chk RX5 4 (decide (yX5_readMan.name = "<init>")) cX5_readMan) = true := by decide +kernel
theorem ab_kc_X5_readMan : kX5_readMan.all (ab_chk RX5 4 (decide (yX5_readMan.name = "<init>")) cX5_readMan) = true := ab_kc_X5_readMan_0
set_option maxRecDepth 100000 in
theorem ab_okc_0 : ∀ mi ∈ ab_mt_0, mi.2.2.2.2.2.2.all (ab_chk mi.1 mi.2.2.2.1 (decide (mi.2.1.name = "<init>")) mi.2.2.1) = true := List.forall_mem_cons.mpr ⟨ab_kc_X0_init, List.forall_mem_cons.mpr ⟨ab_kc_X0_find, List.forall_mem_cons.mpr ⟨ab_kc_X0_foresee, List.forall_mem_cons.mpr ⟨ab_kc_X0_choose, List.forall_mem_cons.mpr ⟨ab_kc_X0_lessen, List.forall_mem_cons.mpr ⟨ab_kc_X1_init, List.forall_mem_cons.mpr ⟨ab_kc_X1_find, List.forall_mem_cons.mpr ⟨ab_kc_X1_step, List.forall_mem_cons.mpr ⟨ab_kc_X1_judge, List.forall_mem_cons.mpr ⟨ab_kc_X2_init, List.forall_mem_cons.mpr ⟨ab_kc_X2_find, List.forall_mem_cons.mpr ⟨ab_kc_X2_arrange, List.forall_mem_cons.mpr ⟨ab_kc_X2_judge, List.forall_mem_cons.mpr ⟨ab_kc_X3_init, List.forall_mem_cons.mpr ⟨ab_kc_X3_isThere, List.forall_mem_cons.mpr ⟨ab_kc_X3_renew, List.forall_mem_cons.mpr ⟨ab_kc_X3_faultOfPair, List.forall_mem_cons.mpr ⟨ab_kc_X3_faultOfCells, List.forall_mem_cons.mpr ⟨ab_kc_X3_put, List.forall_mem_cons.mpr ⟨ab_kc_X4_init, List.forall_mem_cons.mpr ⟨ab_kc_X4_append, List.forall_mem_cons.mpr ⟨ab_kc_X4_match, List.forall_mem_cons.mpr ⟨ab_kc_X4_isPair, List.forall_mem_cons.mpr ⟨ab_kc_X5_init, List.forall_mem_cons.mpr ⟨ab_kc_X5_append, List.forall_mem_cons.mpr ⟨ab_kc_X5_tell, List.forall_mem_cons.mpr ⟨ab_kc_X5_blame, List.forall_mem_cons.mpr ⟨ab_kc_X5_nextToken, List.forall_mem_cons.mpr ⟨ab_kc_X5_isLetter, List.forall_mem_cons.mpr ⟨ab_kc_X5_isFigure, List.forall_mem_cons.mpr ⟨ab_kc_X5_skipBlanks, List.forall_mem_cons.mpr ⟨ab_kc_X5_skipLetters, List.forall_mem_cons.mpr ⟨ab_kc_X5_takeFigures, List.forall_mem_cons.mpr ⟨ab_kc_X5_isName, List.forall_mem_cons.mpr ⟨ab_kc_X5_kindNamed, List.forall_mem_cons.mpr ⟨ab_kc_X5_readLine, List.forall_mem_cons.mpr ⟨ab_kc_X5_refuse, List.forall_mem_cons.mpr ⟨ab_kc_X5_readNumber, List.forall_mem_cons.mpr ⟨ab_kc_X5_readSemicolon, List.forall_mem_cons.mpr ⟨ab_kc_X5_readMan, fun _ h => absurd h List.not_mem_nil⟩⟩⟩⟩⟩⟩⟩⟩⟩⟩⟩⟩⟩⟩⟩⟩⟩⟩⟩⟩⟩⟩⟩⟩⟩⟩⟩⟩⟩⟩⟩⟩⟩⟩⟩⟩⟩⟩⟩⟩
set_option maxRecDepth 100000 in
theorem ab_ok_0 : (ab_mt_0.zip ab_hn_0).all (fun x => ab_okm x.1 x.2) = true := by decide +kernel
theorem ab_okl_0 : ab_mt_0.length = ab_hn_0.length := by decide +kernel
set_option maxRecDepth 100000 in
theorem ab_kw_X0_init : Cond.code yX0_init cX0_init 1 none ∈ ab_gt := List.mem_filter.mpr ⟨List.mem_of_getElem? (i := 310) rfl, rfl⟩
set_option maxRecDepth 100000 in
theorem ab_kw_X0_find : Cond.code yX0_find cX0_find 5 (some .boolean) ∈ ab_gt := List.mem_filter.mpr ⟨List.mem_of_getElem? (i := 807) rfl, rfl⟩
set_option maxRecDepth 100000 in
theorem ab_kw_X0_foresee : Cond.code yX0_foresee cX0_foresee 7 none ∈ ab_gt := List.mem_filter.mpr ⟨List.mem_of_getElem? (i := 813) rfl, rfl⟩
set_option maxRecDepth 100000 in
theorem ab_kw_X0_choose : Cond.code yX0_choose cX0_choose 6 (some .boolean) ∈ ab_gt := List.mem_filter.mpr ⟨List.mem_of_getElem? (i := 826) rfl, rfl⟩
set_option maxRecDepth 100000 in
theorem ab_kw_X0_lessen : Cond.code yX0_lessen cX0_lessen 6 none ∈ ab_gt := List.mem_filter.mpr ⟨List.mem_of_getElem? (i := 830) rfl, rfl⟩
set_option maxRecDepth 100000 in
theorem ab_kw_X1_init : Cond.code yX1_init cX1_init 1 none ∈ ab_gt := List.mem_filter.mpr ⟨List.mem_of_getElem? (i := 278) rfl, rfl⟩
set_option maxRecDepth 100000 in
theorem ab_kw_X1_find : Cond.code yX1_find cX1_find 4 none ∈ ab_gt := List.mem_filter.mpr ⟨List.mem_of_getElem? (i := 787) rfl, rfl⟩
set_option maxRecDepth 100000 in
theorem ab_kw_X1_step : Cond.code yX1_step cX1_step 10 none ∈ ab_gt := List.mem_filter.mpr ⟨List.mem_of_getElem? (i := 791) rfl, rfl⟩
set_option maxRecDepth 100000 in
theorem ab_kw_X1_judge : Cond.code yX1_judge cX1_judge 4 none ∈ ab_gt := List.mem_filter.mpr ⟨List.mem_of_getElem? (i := 795) rfl, rfl⟩
set_option maxRecDepth 100000 in
theorem ab_kw_X2_init : Cond.code yX2_init cX2_init 2 none ∈ ab_gt := List.mem_filter.mpr ⟨List.mem_of_getElem? (i := 338) rfl, rfl⟩
set_option maxRecDepth 100000 in
theorem ab_kw_X2_find : Cond.code yX2_find cX2_find 3 none ∈ ab_gt := List.mem_filter.mpr ⟨List.mem_of_getElem? (i := 840) rfl, rfl⟩
set_option maxRecDepth 100000 in
theorem ab_kw_X2_arrange : Cond.code yX2_arrange cX2_arrange 7 none ∈ ab_gt := List.mem_filter.mpr ⟨List.mem_of_getElem? (i := 845) rfl, rfl⟩
set_option maxRecDepth 100000 in
theorem ab_kw_X2_judge : Cond.code yX2_judge cX2_judge 4 none ∈ ab_gt := List.mem_filter.mpr ⟨List.mem_of_getElem? (i := 849) rfl, rfl⟩
set_option maxRecDepth 100000 in
theorem ab_kw_X3_init : Cond.code yX3_init cX3_init 1 none ∈ ab_gt := List.mem_filter.mpr ⟨List.mem_of_getElem? (i := 385) rfl, rfl⟩
set_option maxRecDepth 100000 in
theorem ab_kw_X3_isThere : Cond.code yX3_isThere cX3_isThere 1 (some .boolean) ∈ ab_gt := List.mem_filter.mpr ⟨List.mem_of_getElem? (i := 1007) rfl, rfl⟩
set_option maxRecDepth 100000 in
theorem ab_kw_X3_renew : Cond.code yX3_renew cX3_renew 4 none ∈ ab_gt := List.mem_filter.mpr ⟨List.mem_of_getElem? (i := 995) rfl, rfl⟩
set_option maxRecDepth 100000 in
theorem ab_kw_X3_faultOfPair : Cond.code yX3_faultOfPair cX3_faultOfPair 4 (some .int) ∈ ab_gt := List.mem_filter.mpr ⟨List.mem_of_getElem? (i := 1020) rfl, rfl⟩
set_option maxRecDepth 100000 in
theorem ab_kw_X3_faultOfCells : Cond.code yX3_faultOfCells cX3_faultOfCells 4 (some .int) ∈ ab_gt := List.mem_filter.mpr ⟨List.mem_of_getElem? (i := 1003) rfl, rfl⟩
set_option maxRecDepth 100000 in
theorem ab_kw_X3_put : Cond.code yX3_put cX3_put 3 none ∈ ab_gt := List.mem_filter.mpr ⟨List.mem_of_getElem? (i := 1011) rfl, rfl⟩
set_option maxRecDepth 100000 in
theorem ab_kw_X4_init : Cond.code yX4_init cX4_init 1 none ∈ ab_gt := List.mem_filter.mpr ⟨List.mem_of_getElem? (i := 243) rfl, rfl⟩
set_option maxRecDepth 100000 in
theorem ab_kw_X4_append : Cond.code yX4_append cX4_append 3 (some .boolean) ∈ ab_gt := List.mem_filter.mpr ⟨List.mem_of_getElem? (i := 944) rfl, rfl⟩
set_option maxRecDepth 100000 in
theorem ab_kw_X4_match : Cond.code yX4_match cX4_match 4 none ∈ ab_gt := List.mem_filter.mpr ⟨List.mem_of_getElem? (i := 956) rfl, rfl⟩
set_option maxRecDepth 100000 in
theorem ab_kw_X4_isPair : Cond.code yX4_isPair cX4_isPair 4 (some .boolean) ∈ ab_gt := List.mem_filter.mpr ⟨List.mem_of_getElem? (i := 961) rfl, rfl⟩
set_option maxRecDepth 100000 in
theorem ab_kw_X5_init : Cond.code yX5_init cX5_init 1 none ∈ ab_gt := List.mem_filter.mpr ⟨List.mem_of_getElem? (i := 198) rfl, rfl⟩
set_option maxRecDepth 100000 in
theorem ab_kw_X5_append : Cond.code yX5_append cX5_append 2 (some .boolean) ∈ ab_gt := List.mem_filter.mpr ⟨List.mem_of_getElem? (i := 449) rfl, rfl⟩
set_option maxRecDepth 100000 in
theorem ab_kw_X5_tell : Cond.code yX5_tell cX5_tell 4 (some .int) ∈ ab_gt := List.mem_filter.mpr ⟨List.mem_of_getElem? (i := 461) rfl, rfl⟩
set_option maxRecDepth 100000 in
theorem ab_kw_X5_blame : Cond.code yX5_blame cX5_blame 3 none ∈ ab_gt := List.mem_filter.mpr ⟨List.mem_of_getElem? (i := 491) rfl, rfl⟩
set_option maxRecDepth 100000 in
theorem ab_kw_X5_nextToken : Cond.code yX5_nextToken cX5_nextToken 1 none ∈ ab_gt := List.mem_filter.mpr ⟨List.mem_of_getElem? (i := 469) rfl, rfl⟩
set_option maxRecDepth 100000 in
theorem ab_kw_X5_isLetter : Cond.code yX5_isLetter cX5_isLetter 1 (some .boolean) ∈ ab_gt := List.mem_filter.mpr ⟨List.mem_of_getElem? (i := 476) rfl, rfl⟩
set_option maxRecDepth 100000 in
theorem ab_kw_X5_isFigure : Cond.code yX5_isFigure cX5_isFigure 1 (some .boolean) ∈ ab_gt := List.mem_filter.mpr ⟨List.mem_of_getElem? (i := 483) rfl, rfl⟩
set_option maxRecDepth 100000 in
theorem ab_kw_X5_skipBlanks : Cond.code yX5_skipBlanks cX5_skipBlanks 1 none ∈ ab_gt := List.mem_filter.mpr ⟨List.mem_of_getElem? (i := 473) rfl, rfl⟩
set_option maxRecDepth 100000 in
theorem ab_kw_X5_skipLetters : Cond.code yX5_skipLetters cX5_skipLetters 1 none ∈ ab_gt := List.mem_filter.mpr ⟨List.mem_of_getElem? (i := 480) rfl, rfl⟩
set_option maxRecDepth 100000 in
theorem ab_kw_X5_takeFigures : Cond.code yX5_takeFigures cX5_takeFigures 1 none ∈ ab_gt := List.mem_filter.mpr ⟨List.mem_of_getElem? (i := 487) rfl, rfl⟩
set_option maxRecDepth 100000 in
theorem ab_kw_X5_isName : Cond.code yX5_isName cX5_isName 3 (some .boolean) ∈ ab_gt := List.mem_filter.mpr ⟨List.mem_of_getElem? (i := 504) rfl, rfl⟩
set_option maxRecDepth 100000 in
theorem ab_kw_X5_kindNamed : Cond.code yX5_kindNamed cX5_kindNamed 1 (some .int) ∈ ab_gt := List.mem_filter.mpr ⟨List.mem_of_getElem? (i := 499) rfl, rfl⟩
set_option maxRecDepth 100000 in
theorem ab_kw_X5_readLine : Cond.code yX5_readLine cX5_readLine 3 none ∈ ab_gt := List.mem_filter.mpr ⟨List.mem_of_getElem? (i := 495) rfl, rfl⟩
set_option maxRecDepth 100000 in
theorem ab_kw_X5_refuse : Cond.code yX5_refuse cX5_refuse 3 none ∈ ab_gt := List.mem_filter.mpr ⟨List.mem_of_getElem? (i := 564) rfl, rfl⟩
set_option maxRecDepth 100000 in
theorem ab_kw_X5_readNumber : Cond.code yX5_readNumber cX5_readNumber 3 (some .int) ∈ ab_gt := List.mem_filter.mpr ⟨List.mem_of_getElem? (i := 568) rfl, rfl⟩
set_option maxRecDepth 100000 in
theorem ab_kw_X5_readSemicolon : Cond.code yX5_readSemicolon cX5_readSemicolon 1 (some .boolean) ∈ ab_gt := List.mem_filter.mpr ⟨List.mem_of_getElem? (i := 573) rfl, rfl⟩
set_option maxRecDepth 100000 in
theorem ab_kw_X5_readMan : Cond.code yX5_readMan cX5_readMan 4 none ∈ ab_gt := List.mem_filter.mpr ⟨List.mem_of_getElem? (i := 560) rfl, rfl⟩
set_option maxRecDepth 100000 in
theorem ab_okw_0 : ∀ mi ∈ ab_mt_0, Cond.code mi.2.1 mi.2.2.1 mi.2.2.2.1 mi.2.2.2.2.1 ∈ ab_gt := List.forall_mem_cons.mpr ⟨ab_kw_X0_init, List.forall_mem_cons.mpr ⟨ab_kw_X0_find, List.forall_mem_cons.mpr ⟨ab_kw_X0_foresee, List.forall_mem_cons.mpr ⟨ab_kw_X0_choose, List.forall_mem_cons.mpr ⟨ab_kw_X0_lessen, List.forall_mem_cons.mpr ⟨ab_kw_X1_init, List.forall_mem_cons.mpr ⟨ab_kw_X1_find, List.forall_mem_cons.mpr ⟨ab_kw_X1_step, List.forall_mem_cons.mpr ⟨ab_kw_X1_judge, List.forall_mem_cons.mpr ⟨ab_kw_X2_init, List.forall_mem_cons.mpr ⟨ab_kw_X2_find, List.forall_mem_cons.mpr ⟨ab_kw_X2_arrange, List.forall_mem_cons.mpr ⟨ab_kw_X2_judge, List.forall_mem_cons.mpr ⟨ab_kw_X3_init, List.forall_mem_cons.mpr ⟨ab_kw_X3_isThere, List.forall_mem_cons.mpr ⟨ab_kw_X3_renew, List.forall_mem_cons.mpr ⟨ab_kw_X3_faultOfPair, List.forall_mem_cons.mpr ⟨ab_kw_X3_faultOfCells, List.forall_mem_cons.mpr ⟨ab_kw_X3_put, List.forall_mem_cons.mpr ⟨ab_kw_X4_init, List.forall_mem_cons.mpr ⟨ab_kw_X4_append, List.forall_mem_cons.mpr ⟨ab_kw_X4_match, List.forall_mem_cons.mpr ⟨ab_kw_X4_isPair, List.forall_mem_cons.mpr ⟨ab_kw_X5_init, List.forall_mem_cons.mpr ⟨ab_kw_X5_append, List.forall_mem_cons.mpr ⟨ab_kw_X5_tell, List.forall_mem_cons.mpr ⟨ab_kw_X5_blame, List.forall_mem_cons.mpr ⟨ab_kw_X5_nextToken, List.forall_mem_cons.mpr ⟨ab_kw_X5_isLetter, List.forall_mem_cons.mpr ⟨ab_kw_X5_isFigure, List.forall_mem_cons.mpr ⟨ab_kw_X5_skipBlanks, List.forall_mem_cons.mpr ⟨ab_kw_X5_skipLetters, List.forall_mem_cons.mpr ⟨ab_kw_X5_takeFigures, List.forall_mem_cons.mpr ⟨ab_kw_X5_isName, List.forall_mem_cons.mpr ⟨ab_kw_X5_kindNamed, List.forall_mem_cons.mpr ⟨ab_kw_X5_readLine, List.forall_mem_cons.mpr ⟨ab_kw_X5_refuse, List.forall_mem_cons.mpr ⟨ab_kw_X5_readNumber, List.forall_mem_cons.mpr ⟨ab_kw_X5_readSemicolon, List.forall_mem_cons.mpr ⟨ab_kw_X5_readMan, fun _ h => absurd h List.not_mem_nil⟩⟩⟩⟩⟩⟩⟩⟩⟩⟩⟩⟩⟩⟩⟩⟩⟩⟩⟩⟩⟩⟩⟩⟩⟩⟩⟩⟩⟩⟩⟩⟩⟩⟩⟩⟩⟩⟩⟩⟩
