set_option maxRecDepth 100000 in
theorem ai_mt_ok : ∀ M ∈ ai_mt, ai_okM ai_big ai_own M := by
  unfold ai_mt
  exact List.forall_mem_cons.mpr ⟨k_House_init, List.forall_mem_cons.mpr ⟨k_Program_init, List.forall_mem_cons.mpr ⟨k_Parts_init, List.forall_mem_cons.mpr ⟨k_Letters_init, List.forall_mem_cons.mpr ⟨k_Equations_init, List.forall_mem_cons.mpr ⟨k_Automata_init, List.forall_mem_cons.mpr ⟨k_Machine_init, List.forall_mem_cons.mpr ⟨k_Prover_init, List.forall_mem_cons.mpr ⟨k_Instance_init, List.forall_mem_cons.mpr ⟨k_House_type, List.forall_mem_cons.mpr ⟨k_House_byteOf, List.forall_mem_cons.mpr ⟨k_House_fault, List.forall_mem_cons.mpr ⟨k_House_node, List.forall_mem_cons.mpr ⟨k_Program_has, List.forall_mem_cons.mpr ⟨k_House_make, List.forall_mem_cons.mpr ⟨k_Program_canMake, List.forall_mem_cons.mpr ⟨k_Instance_begin, List.forall_mem_cons.mpr ⟨k_Arrays_fill, List.forall_mem_cons.mpr ⟨k_House_put, List.forall_mem_cons.mpr ⟨k_House_isMade, List.forall_mem_cons.mpr ⟨k_House_tick, List.forall_mem_cons.mpr ⟨k_Machine_goes, List.forall_mem_cons.mpr ⟨k_Machine_feedOne, List.forall_mem_cons.mpr ⟨k_Machine_go, List.forall_mem_cons.mpr ⟨k_Machine_isOn, List.forall_mem_cons.mpr ⟨k_Machine_isPresent, List.forall_mem_cons.mpr ⟨k_Machine_worth, List.forall_mem_cons.mpr ⟨k_Machine_firstThenLater, List.forall_mem_cons.mpr ⟨k_Machine_call, List.forall_mem_cons.mpr ⟨k_Machine_renew, List.forall_mem_cons.mpr ⟨k_Machine_divide, List.forall_mem_cons.mpr ⟨k_Machine_rest, List.forall_mem_cons.mpr ⟨k_Machine_reckon, List.forall_mem_cons.mpr ⟨k_Machine_assign, List.forall_mem_cons.mpr ⟨k_Parts_isCall, List.forall_mem_cons.mpr ⟨k_Machine_goOver, List.forall_mem_cons.mpr ⟨k_Machine_firstMove, List.forall_mem_cons.mpr ⟨k_Instance_takeOver, List.forall_mem_cons.mpr ⟨k_House_state, List.forall_mem_cons.mpr ⟨k_House_ticks, List.forall_mem_cons.mpr ⟨k_House_save, List.forall_mem_cons.mpr ⟨k_Instance_keep, List.forall_mem_cons.mpr ⟨k_House_back, List.forall_mem_cons.mpr ⟨k_Instance_bringBack, List.forall_mem_cons.mpr ⟨k_House_prove, List.forall_mem_cons.mpr ⟨k_House_canProve, List.forall_mem_cons.mpr ⟨k_Prover_begin, List.forall_mem_cons.mpr ⟨k_Prover_search, List.forall_mem_cons.mpr ⟨k_Prover_takeFirstRow, List.forall_mem_cons.mpr ⟨k_Prover_findSpot, List.forall_mem_cons.mpr ⟨k_Prover_isRow, List.forall_mem_cons.mpr ⟨k_Prover_keepRow, List.forall_mem_cons.mpr ⟨k_Prover_holds, List.forall_mem_cons.mpr ⟨k_Prover_takeOutputs, List.forall_mem_cons.mpr ⟨k_Prover_hasOutputs, List.forall_mem_cons.mpr ⟨k_Prover_tellPath, List.forall_mem_cons.mpr ⟨k_House_alike, List.forall_mem_cons.mpr ⟨k_House_haveSameOutputs, List.forall_mem_cons.mpr ⟨k_House_run, List.forall_mem_cons.mpr ⟨k_House_total, List.forall_mem_cons.mpr ⟨k_House_module, List.forall_mem_cons.mpr ⟨k_Reader_init, List.forall_mem_cons.mpr ⟨k_Judge_init, List.forall_mem_cons.mpr ⟨k_Program_clear, List.forall_mem_cons.mpr ⟨k_Letters_clear, List.forall_mem_cons.mpr ⟨k_Reader_readHead, List.forall_mem_cons.mpr ⟨k_Reader_look, List.forall_mem_cons.mpr ⟨k_Reader_isName, List.forall_mem_cons.mpr ⟨k_Reader_refuse, List.forall_mem_cons.mpr ⟨k_Reader_expect, List.forall_mem_cons.mpr ⟨k_Reader_readFlows, List.forall_mem_cons.mpr ⟨k_Reader_readFlow, List.forall_mem_cons.mpr ⟨k_Reader_takeLetter, List.forall_mem_cons.mpr ⟨k_Reader_isLetter, List.forall_mem_cons.mpr ⟨k_Letters_tell, List.forall_mem_cons.mpr ⟨k_Program_tellFlow, List.forall_mem_cons.mpr ⟨k_Reader_takeClock, List.forall_mem_cons.mpr ⟨k_Letters_tellClock, List.forall_mem_cons.mpr ⟨k_Reader_takeNumber, List.forall_mem_cons.mpr ⟨k_Reader_isDigit, List.forall_mem_cons.mpr ⟨k_Letters_tellLast, List.forall_mem_cons.mpr ⟨k_Reader_readAutomaton, List.forall_mem_cons.mpr ⟨k_Automata_add, List.forall_mem_cons.mpr ⟨k_Automata_addState, List.forall_mem_cons.mpr ⟨k_Reader_readEquation, List.forall_mem_cons.mpr ⟨k_Equations_add, List.forall_mem_cons.mpr ⟨k_Equations_addHead, List.forall_mem_cons.mpr ⟨k_Reader_readX, List.forall_mem_cons.mpr ⟨k_Reader_readC, List.forall_mem_cons.mpr ⟨k_Reader_readRanked, List.forall_mem_cons.mpr ⟨k_Reader_readK, List.forall_mem_cons.mpr ⟨k_Reader_addPart, List.forall_mem_cons.mpr ⟨k_Parts_add, List.forall_mem_cons.mpr ⟨k_Reader_readCall, List.forall_mem_cons.mpr ⟨k_Program_find, List.forall_mem_cons.mpr ⟨k_Reader_deepen, List.forall_mem_cons.mpr ⟨k_Reader_readBehind, List.forall_mem_cons.mpr ⟨k_Reader_atArrow, List.forall_mem_cons.mpr ⟨k_Reader_readWithin, List.forall_mem_cons.mpr ⟨k_Reader_readMerge, List.forall_mem_cons.mpr ⟨k_Reader_sampled, List.forall_mem_cons.mpr ⟨k_Reader_operatorHere, List.forall_mem_cons.mpr ⟨k_Reader_rankOf, List.forall_mem_cons.mpr ⟨k_Reader_join, List.forall_mem_cons.mpr ⟨k_Reader_readMove, List.forall_mem_cons.mpr ⟨k_Automata_addMove, List.forall_mem_cons.mpr ⟨k_Program_endNode, List.forall_mem_cons.mpr ⟨k_Judge_judge, List.forall_mem_cons.mpr ⟨k_Judge_lookFor, List.forall_mem_cons.mpr ⟨k_Judge_judgeHeads, List.forall_mem_cons.mpr ⟨k_Judge_judgeHead, List.forall_mem_cons.mpr ⟨k_Judge_blameIf, List.forall_mem_cons.mpr ⟨k_Letters_bit, List.forall_mem_cons.mpr ⟨k_Judge_judgeNames, List.forall_mem_cons.mpr ⟨k_Judge_isTruth, List.forall_mem_cons.mpr ⟨k_Judge_judgeStates, List.forall_mem_cons.mpr ⟨k_Judge_judgeTellings, List.forall_mem_cons.mpr ⟨k_Judge_judgeSorts, List.forall_mem_cons.mpr ⟨k_Judge_sortOf, List.forall_mem_cons.mpr ⟨k_Judge_judgePartSorts, List.forall_mem_cons.mpr ⟨k_Judge_judgeCallSorts, List.forall_mem_cons.mpr ⟨k_Judge_mustBe, List.forall_mem_cons.mpr ⟨k_Judge_judgeEquationSorts, List.forall_mem_cons.mpr ⟨k_Judge_judgeRings, List.forall_mem_cons.mpr ⟨k_Judge_judgeClocks, List.forall_mem_cons.mpr ⟨k_Judge_clockOf, List.forall_mem_cons.mpr ⟨k_Judge_mustBeOn, List.forall_mem_cons.mpr ⟨k_Judge_clockOfCall, List.forall_mem_cons.mpr ⟨k_Judge_commonClock, List.forall_mem_cons.mpr ⟨k_Judge_judgeBases, List.forall_mem_cons.mpr ⟨k_Judge_findBare, List.forall_mem_cons.mpr ⟨k_Judge_isBare, List.forall_mem_cons.mpr ⟨k_Parts_ownLetter, List.forall_mem_cons.mpr ⟨k_Judge_judgeBareParts, List.forall_mem_cons.mpr ⟨k_Judge_mustHave, List.forall_mem_cons.mpr ⟨k_Judge_judgeBareRest, List.forall_mem_cons.mpr ⟨k_Judge_judgeCycles, List.forall_mem_cons.mpr ⟨k_Judge_findNeeds, List.forall_mem_cons.mpr ⟨k_Judge_lettersIn, List.forall_mem_cons.mpr ⟨k_Planner_init, List.forall_mem_cons.mpr ⟨k_Planner_plan, List.forall_mem_cons.mpr ⟨k_Planner_count, List.forall_mem_cons.mpr ⟨k_Planner_valuesOf, List.forall_mem_cons.mpr ⟨k_Planner_layOut, List.forall_mem_cons.mpr ⟨k_Planner_fillFirstMemory, List.forall_mem_cons.mpr ⟨k_Planner_settleClocks, List.forall_mem_cons.mpr ⟨k_Planner_settle, List.forall_mem_cons.mpr ⟨k_Planner_schedule, List.forall_mem_cons.mpr ⟨k_Planner_beginSchedule, List.forall_mem_cons.mpr ⟨k_Planner_scheduleStrong, List.forall_mem_cons.mpr ⟨k_Planner_scheduleMoves, List.forall_mem_cons.mpr ⟨k_Planner_addStep, List.forall_mem_cons.mpr ⟨k_Planner_scheduleEquations, List.forall_mem_cons.mpr ⟨k_Planner_scheduleEquation, List.forall_mem_cons.mpr ⟨k_Planner_scheduleEnd, List.forall_mem_cons.mpr ⟨k_Machine_load, List.forall_mem_cons.mpr ⟨k_House_out, List.forall_mem_cons.mpr ⟨k_House_flow, List.forall_mem_cons.mpr ⟨k_Model_init, List.forall_mem_cons.mpr ⟨k_Model_thrown, List.forall_mem_cons.mpr ⟨k_Model_type, List.forall_mem_cons.mpr ⟨k_Model_module, List.forall_mem_cons.mpr ⟨k_Model_isModule, List.forall_mem_cons.mpr ⟨k_Model_readAll, List.forall_mem_cons.mpr ⟨k_Model_readNode, List.forall_mem_cons.mpr ⟨k_Model_isName, List.forall_mem_cons.mpr ⟨k_Model_see, List.forall_mem_cons.mpr ⟨k_Model_within, List.forall_mem_cons.mpr ⟨k_Model_at, List.forall_mem_cons.mpr ⟨k_Model_want, List.forall_mem_cons.mpr ⟨k_Model_readFlows, List.forall_mem_cons.mpr ⟨k_Model_takeLetter, List.forall_mem_cons.mpr ⟨k_Model_isLetter, List.forall_mem_cons.mpr ⟨k_Model_note, List.forall_mem_cons.mpr ⟨k_Model_readClock, List.forall_mem_cons.mpr ⟨k_Model_readNumber, List.forall_mem_cons.mpr ⟨k_Model_isDigit, List.forall_mem_cons.mpr ⟨k_Model_readAutomaton, List.forall_mem_cons.mpr ⟨k_Model_readEquation, List.forall_mem_cons.mpr ⟨k_Model_readX, List.forall_mem_cons.mpr ⟨k_Model_readC, List.forall_mem_cons.mpr ⟨k_Model_readD, List.forall_mem_cons.mpr ⟨k_Model_readE, List.forall_mem_cons.mpr ⟨k_Model_readF, List.forall_mem_cons.mpr ⟨k_Model_readG, List.forall_mem_cons.mpr ⟨k_Model_readH, List.forall_mem_cons.mpr ⟨k_Model_readJ, List.forall_mem_cons.mpr ⟨k_Model_readK, List.forall_mem_cons.mpr ⟨k_Model_isArrow, List.forall_mem_cons.mpr ⟨k_Model_seeNext, List.forall_mem_cons.mpr ⟨k_Model_readPrefix, List.forall_mem_cons.mpr ⟨k_Model_open, List.forall_mem_cons.mpr ⟨k_Model_makePart, List.forall_mem_cons.mpr ⟨k_Model_readBracket, List.forall_mem_cons.mpr ⟨k_Model_readMerge, List.forall_mem_cons.mpr ⟨k_Model_readCall, List.forall_mem_cons.mpr ⟨k_Model_readChoice, List.forall_mem_cons.mpr ⟨k_Model_readArrow, List.forall_mem_cons.mpr ⟨k_Model_readTransition, List.forall_mem_cons.mpr ⟨k_Model_checkKind, List.forall_mem_cons.mpr ⟨k_Model_checkNames, List.forall_mem_cons.mpr ⟨k_Model_needTruth, List.forall_mem_cons.mpr ⟨k_Model_checkPart, List.forall_mem_cons.mpr ⟨k_Model_needLetter, List.forall_mem_cons.mpr ⟨k_Model_checkLefts, List.forall_mem_cons.mpr ⟨k_Model_isSecond, List.forall_mem_cons.mpr ⟨k_Model_ownerOf, List.forall_mem_cons.mpr ⟨k_Model_isLeft, List.forall_mem_cons.mpr ⟨k_Model_hasLeft, List.forall_mem_cons.mpr ⟨k_Model_checkStates, List.forall_mem_cons.mpr ⟨k_Model_isIn, List.forall_mem_cons.mpr ⟨k_Model_findTypes, List.forall_mem_cons.mpr ⟨k_Model_typeOfLetter, List.forall_mem_cons.mpr ⟨k_Model_checkTypes, List.forall_mem_cons.mpr ⟨k_Model_must, List.forall_mem_cons.mpr ⟨k_Model_checkCall, List.forall_mem_cons.mpr ⟨k_Model_checkEquation, List.forall_mem_cons.mpr ⟨k_Model_findClock, List.forall_mem_cons.mpr ⟨k_Model_clockOf, List.forall_mem_cons.mpr ⟨k_Model_join, List.forall_mem_cons.mpr ⟨k_Model_checkClocks, List.forall_mem_cons.mpr ⟨k_Model_mustBeOn, List.forall_mem_cons.mpr ⟨k_Model_checkEquationClock, List.forall_mem_cons.mpr ⟨k_Model_eqClock, List.forall_mem_cons.mpr ⟨k_Model_checkInAutomaton, List.forall_mem_cons.mpr ⟨k_Model_checkRings, List.forall_mem_cons.mpr ⟨k_Model_checkFirsts, List.forall_mem_cons.mpr ⟨k_Model_findFirsts, List.forall_mem_cons.mpr ⟨k_Model_findFirst, List.forall_mem_cons.mpr ⟨k_Model_checkFirst, List.forall_mem_cons.mpr ⟨k_Model_mustHave, List.forall_mem_cons.mpr ⟨k_Model_letterMustHave, List.forall_mem_cons.mpr ⟨k_Model_findLater, List.forall_mem_cons.mpr ⟨k_Model_checkCycles, List.forall_mem_cons.mpr ⟨k_Model_findHangs, List.forall_mem_cons.mpr ⟨k_Model_hangOn, List.forall_mem_cons.mpr ⟨k_Model_findOrder, List.forall_mem_cons.mpr ⟨k_Model_settleClocks, List.forall_mem_cons.mpr ⟨k_Model_free, List.forall_mem_cons.mpr ⟨k_Model_findSlots, List.forall_mem_cons.mpr ⟨k_Model_place, List.forall_mem_cons.mpr ⟨k_Model_least, List.forall_mem_cons.mpr ⟨k_Model_fault, List.forall_mem_cons.mpr ⟨k_Model_node, List.forall_mem_cons.mpr ⟨k_Model_isNode, List.forall_mem_cons.mpr ⟨k_Model_make, List.forall_mem_cons.mpr ⟨k_Model_canBe, List.forall_mem_cons.mpr ⟨k_Model_put, List.forall_mem_cons.mpr ⟨k_Model_isInstance, List.forall_mem_cons.mpr ⟨k_Model_tick, List.forall_mem_cons.mpr ⟨k_Model_tickNode, List.forall_mem_cons.mpr ⟨k_Model_doLetter, List.forall_mem_cons.mpr ⟨k_Model_doEquation, List.forall_mem_cons.mpr ⟨k_Model_workAll, List.forall_mem_cons.mpr ⟨k_Model_isOn, List.forall_mem_cons.mpr ⟨k_Model_work, List.forall_mem_cons.mpr ⟨k_Model_valueAt, List.forall_mem_cons.mpr ⟨k_Model_divided, List.forall_mem_cons.mpr ⟨k_Model_fail, List.forall_mem_cons.mpr ⟨k_Model_call, List.forall_mem_cons.mpr ⟨k_Model_renew, List.forall_mem_cons.mpr ⟨k_Model_choose, List.forall_mem_cons.mpr ⟨k_Model_firstOf, List.forall_mem_cons.mpr ⟨k_Model_renewState, List.forall_mem_cons.mpr ⟨k_Model_holds, List.forall_mem_cons.mpr ⟨k_Model_leave, List.forall_mem_cons.mpr ⟨k_Model_out, List.forall_mem_cons.mpr ⟨k_Model_flow, List.forall_mem_cons.mpr ⟨k_Model_state, List.forall_mem_cons.mpr ⟨k_Model_ticks, List.forall_mem_cons.mpr ⟨k_Model_save, List.forall_mem_cons.mpr ⟨k_Model_back, List.forall_mem_cons.mpr ⟨k_Model_prove, List.forall_mem_cons.mpr ⟨k_Model_canBeFed, List.forall_mem_cons.mpr ⟨k_Model_search, List.forall_mem_cons.mpr ⟨k_Model_begin, List.forall_mem_cons.mpr ⟨k_Model_keep, List.forall_mem_cons.mpr ⟨k_Model_recall, List.forall_mem_cons.mpr ⟨k_Model_isGood, List.forall_mem_cons.mpr ⟨k_Model_feed, List.forall_mem_cons.mpr ⟨k_Model_findWay, List.forall_mem_cons.mpr ⟨k_Model_isSeen, List.forall_mem_cons.mpr ⟨k_Model_alike, List.forall_mem_cons.mpr ⟨k_Model_run, List.forall_mem_cons.mpr ⟨k_Model_total, fun _ h => absurd h List.not_mem_nil⟩⟩⟩⟩⟩⟩⟩⟩⟩⟩⟩⟩⟩⟩⟩⟩⟩⟩⟩⟩⟩⟩⟩⟩⟩⟩⟩⟩⟩⟩⟩⟩⟩⟩⟩⟩⟩⟩⟩⟩⟩⟩⟩⟩⟩⟩⟩⟩⟩⟩⟩⟩⟩⟩⟩⟩⟩⟩⟩⟩⟩⟩⟩⟩⟩⟩⟩⟩⟩⟩⟩⟩⟩⟩⟩⟩⟩⟩⟩⟩⟩⟩⟩⟩⟩⟩⟩⟩⟩⟩⟩⟩⟩⟩⟩⟩⟩⟩⟩⟩⟩⟩⟩⟩⟩⟩⟩⟩⟩⟩⟩⟩⟩⟩⟩⟩⟩⟩⟩⟩⟩⟩⟩⟩⟩⟩⟩⟩⟩⟩⟩⟩⟩⟩⟩⟩⟩⟩⟩⟩⟩⟩⟩⟩⟩⟩⟩⟩⟩⟩⟩⟩⟩⟩⟩⟩⟩⟩⟩⟩⟩⟩⟩⟩⟩⟩⟩⟩⟩⟩⟩⟩⟩⟩⟩⟩⟩⟩⟩⟩⟩⟩⟩⟩⟩⟩⟩⟩⟩⟩⟩⟩⟩⟩⟩⟩⟩⟩⟩⟩⟩⟩⟩⟩⟩⟩⟩⟩⟩⟩⟩⟩⟩⟩⟩⟩⟩⟩⟩⟩⟩⟩⟩⟩⟩⟩⟩⟩⟩⟩⟩⟩⟩⟩⟩⟩⟩⟩⟩⟩⟩⟩⟩⟩⟩⟩⟩⟩⟩⟩⟩⟩⟩⟩⟩⟩⟩⟩⟩⟩⟩⟩⟩⟩⟩⟩⟩⟩⟩⟩⟩⟩⟩⟩⟩⟩⟩⟩⟩⟩⟩⟩⟩⟩⟩
theorem ai_flF_ok : ∀ c idx f, ai_flF c idx = some f → ai_okF ai_big ai_nests ai_cl (ai_own c) idx f := by
  have key : ∀ c (l : List (Nat × (Nat × Nat × FieldType × Bool) × Nat)), l.all (ai_ckF c) = true → ∀ idx f, (l.find? (fun q => q.1 == idx)).map (fun q => q.2.1) = some f → ai_okF ai_big ai_nests ai_cl (ai_own c) idx f := by
    intro c l hl idx f h
    obtain ⟨q, hq, rfl⟩ := Option.map_eq_some_iff.mp h
    have h1 := ai_ckF_of (List.all_eq_true.mp hl q (List.mem_of_find?_eq_some hq))
    have h2 : q.1 = idx := by simpa using List.find?_some hq
    rw [h2] at h1
    exact h1
  intro c idx f h
  unfold ai_flF at h
  match c, h with
  | 0, h => exact key 0 _ ai_fl0_ok idx f h
  | 1, h => exact key 1 _ ai_fl1_ok idx f h
  | 2, h => exact key 2 _ ai_fl2_ok idx f h
  | 3, h => exact key 3 _ ai_fl3_ok idx f h
  | 4, h => exact key 4 _ ai_fl4_ok idx f h
  | 5, h => exact key 5 _ ai_fl5_ok idx f h
  | 6, h => exact key 6 _ ai_fl6_ok idx f h
  | 7, h => exact key 7 _ ai_fl7_ok idx f h
  | 8, h => exact key 8 _ ai_fl8_ok idx f h
  | 9, h => exact key 9 _ ai_fl9_ok idx f h
  | 10, h => exact key 10 _ ai_fl10_ok idx f h
  | 11, h => exact key 11 _ ai_fl11_ok idx f h
  | 12, h => exact key 12 _ ai_fl12_ok idx f h
  | 13, h => exact key 13 _ ai_fl13_ok idx f h
  | 14, h => exact key 14 _ ai_fl14_ok idx f h
  | 15, h => exact key 15 _ ai_fl15_ok idx f h
  | k + 16, h => simp [ai_flT] at h
theorem ai_mlF_ok : ∀ c idx q, ai_mlF c idx = some q → ai_okC ai_big ai_nests ai_cl (fun k => ai_mt[k]?) (ai_own c) idx q := by
  have key : ∀ c (l : List (Nat × (Nat × Nat × Nat × Nat) × Nat × Nat × (Bool × Nat))), l.all (ai_ckC c) = true → ∀ idx f, (l.find? (fun q => q.1 == idx)).map (fun q => q.2.1) = some f → ai_okC ai_big ai_nests ai_cl (fun k => ai_mt[k]?) (ai_own c) idx f := by
    intro c l hl idx f h
    obtain ⟨q, hq, rfl⟩ := Option.map_eq_some_iff.mp h
    have h1 := ai_ckC_of (List.all_eq_true.mp hl q (List.mem_of_find?_eq_some hq))
    have h2 : q.1 = idx := by simpa using List.find?_some hq
    rw [h2] at h1
    exact h1
  intro c idx f h
  unfold ai_mlF at h
  match c, h with
  | 0, h => exact key 0 _ ai_ml0_ok idx f h
  | 1, h => exact key 1 _ ai_ml1_ok idx f h
  | 2, h => exact key 2 _ ai_ml2_ok idx f h
  | 3, h => exact key 3 _ ai_ml3_ok idx f h
  | 4, h => exact key 4 _ ai_ml4_ok idx f h
  | 5, h => exact key 5 _ ai_ml5_ok idx f h
  | 6, h => exact key 6 _ ai_ml6_ok idx f h
  | 7, h => exact key 7 _ ai_ml7_ok idx f h
  | 8, h => exact key 8 _ ai_ml8_ok idx f h
  | 9, h => exact key 9 _ ai_ml9_ok idx f h
  | 10, h => exact key 10 _ ai_ml10_ok idx f h
  | 11, h => exact key 11 _ ai_ml11_ok idx f h
  | 12, h => exact key 12 _ ai_ml12_ok idx f h
  | 13, h => exact key 13 _ ai_ml13_ok idx f h
  | 14, h => exact key 14 _ ai_ml14_ok idx f h
  | 15, h => exact key 15 _ ai_ml15_ok idx f h
  | k + 16, h => simp [ai_mlT] at h
theorem ai_nwF_ok : ∀ c idx ci, ai_nwF c idx = some ci → ai_okN ai_big ai_cl ai_df (ai_own c) idx ci := by
  have key : ∀ c (l : List (Nat × Nat × Nat)), (∀ q ∈ l, ai_okN ai_big ai_cl ai_df (ai_own c) q.1 q.2.1) → ∀ idx f, (l.find? (fun q => q.1 == idx)).map (fun q => q.2.1) = some f → ai_okN ai_big ai_cl ai_df (ai_own c) idx f := by
    intro c l hl idx f h
    obtain ⟨q, hq, rfl⟩ := Option.map_eq_some_iff.mp h
    have h1 := hl q (List.mem_of_find?_eq_some hq)
    have h2 : q.1 = idx := by simpa using List.find?_some hq
    rw [h2] at h1
    exact h1
  intro c idx f h
  unfold ai_nwF at h
  match c, h with
  | 0, h => exact key 0 ai_nw0 (fun _ h => absurd h List.not_mem_nil) idx f h
  | 1, h => exact key 1 ai_nw1 (fun _ h => absurd h List.not_mem_nil) idx f h
  | 2, h => exact key 2 ai_nw2 (fun _ h => absurd h List.not_mem_nil) idx f h
  | 3, h => exact key 3 ai_nw3 (fun _ h => absurd h List.not_mem_nil) idx f h
  | 4, h => exact key 4 ai_nw4 (fun _ h => absurd h List.not_mem_nil) idx f h
  | 5, h => exact key 5 ai_nw5 (fun _ h => absurd h List.not_mem_nil) idx f h
  | 6, h => exact key 6 ai_nw6 (fun _ h => absurd h List.not_mem_nil) idx f h
  | 7, h => exact key 7 ai_nw7 (fun _ h => absurd h List.not_mem_nil) idx f h
  | 8, h => exact key 8 ai_nw8 (List.forall_mem_cons.mpr ⟨ai_ckN_of ai_nw8_57_ok, List.forall_mem_cons.mpr ⟨ai_ckN_of ai_nw8_64_ok, List.forall_mem_cons.mpr ⟨ai_ckN_of ai_nw8_71_ok, List.forall_mem_cons.mpr ⟨ai_ckN_of ai_nw8_78_ok, fun _ h => absurd h List.not_mem_nil⟩⟩⟩⟩) idx f h
  | 9, h => exact key 9 ai_nw9 (fun _ h => absurd h List.not_mem_nil) idx f h
  | 10, h => exact key 10 ai_nw10 (fun _ h => absurd h List.not_mem_nil) idx f h
  | 11, h => exact key 11 ai_nw11 (List.forall_mem_cons.mpr ⟨ai_ckN_of ai_nw11_13_ok, List.forall_mem_cons.mpr ⟨ai_ckN_of ai_nw11_23_ok, List.forall_mem_cons.mpr ⟨ai_ckN_of ai_nw11_32_ok, List.forall_mem_cons.mpr ⟨ai_ckN_of ai_nw11_38_ok, List.forall_mem_cons.mpr ⟨ai_ckN_of ai_nw11_54_ok, List.forall_mem_cons.mpr ⟨ai_ckN_of ai_nw11_59_ok, List.forall_mem_cons.mpr ⟨ai_ckN_of ai_nw11_92_ok, fun _ h => absurd h List.not_mem_nil⟩⟩⟩⟩⟩⟩⟩) idx f h
  | 12, h => exact key 12 ai_nw12 (fun _ h => absurd h List.not_mem_nil) idx f h
  | 13, h => exact key 13 ai_nw13 (List.forall_mem_cons.mpr ⟨ai_ckN_of ai_nw13_8_ok, List.forall_mem_cons.mpr ⟨ai_ckN_of ai_nw13_25_ok, fun _ h => absurd h List.not_mem_nil⟩⟩) idx f h
  | 14, h => exact key 14 ai_nw14 (fun _ h => absurd h List.not_mem_nil) idx f h
  | 15, h => exact key 15 ai_nw15 (fun _ h => absurd h List.not_mem_nil) idx f h
  | k + 16, h => simp [ai_nwT] at h
def ai_ckK (q : Nat × Nat × Value × Nat) : Bool := match q.2.2.1 with
  | .int v => ai_has q.2.2.2 (Cond.constant (ai_own q.1) q.2.1 v)
  | .long v => ai_has q.2.2.2 (Cond.constantLong (ai_own q.1) q.2.1 v)
  | _ => true
theorem ai_csL_ok : ai_csL.all ai_ckK = true := by decide +kernel
theorem ai_csF_of {c idx : Nat} {v : Value} (h : ai_csF c idx = some v) : ∃ i, ai_ckK (c, idx, v, i) = true := by
  obtain ⟨q, hq, rfl⟩ := Option.map_eq_some_iff.mp h
  have h1 := List.all_eq_true.mp ai_csL_ok q (List.mem_of_find?_eq_some hq)
  have h2 := List.find?_some hq
  simp only [Bool.and_eq_true, beq_iff_eq] at h2
  obtain ⟨rfl, rfl⟩ := h2
  exact ⟨q.2.2.2, h1⟩
theorem ai_nests_ok : ∀ w ∈ ai_nests, ai_nest w := by
  unfold ai_nests
  exact List.forall_mem_cons.mpr ⟨Or.inr ⟨_, _, _, _, rfl⟩, List.forall_mem_cons.mpr ⟨Or.inr ⟨_, _, _, _, rfl⟩, List.forall_mem_cons.mpr ⟨Or.inr ⟨_, _, _, _, rfl⟩, List.forall_mem_cons.mpr ⟨Or.inr ⟨_, _, _, _, rfl⟩, List.forall_mem_cons.mpr ⟨Or.inr ⟨_, _, _, _, rfl⟩, List.forall_mem_cons.mpr ⟨Or.inl ⟨_, _, _, _, _, _, rfl⟩, List.forall_mem_cons.mpr ⟨Or.inl ⟨_, _, _, _, _, _, rfl⟩, List.forall_mem_cons.mpr ⟨Or.inr ⟨_, _, _, _, rfl⟩, List.forall_mem_cons.mpr ⟨Or.inr ⟨_, _, _, _, rfl⟩, fun _ h => absurd h List.not_mem_nil⟩⟩⟩⟩⟩⟩⟩⟩⟩
theorem ai_tb : ai_TB ai_P0 ai_cl ai_tl ai_big ai_nests ai_own := ⟨ai_big_good, ai_nests_ok, ⟨rfl, rfl, rfl, ai_has_of (i := 133) (by decide +kernel), ai_has_of (i := 134) (by decide +kernel), ai_has_of (i := 132) (by decide +kernel)⟩, ⟨ai_cl_ok, ai_cl_own⟩, fun k M h => ai_mt_ok M (List.mem_of_getElem? h), ai_flF_ok, ai_nwF_ok, ai_mlF_ok, fun c x v h => (ai_csF_of h).elim fun i h1 => ai_has_of (i := i) h1, fun c x v h => (ai_csF_of h).elim fun i h1 => ai_has_of (i := i) h1, ⟨rfl, ai_has_of (i := 2384) (by decide +kernel)⟩, rfl, ai_T2, 9, rfl⟩
