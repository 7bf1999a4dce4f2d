set_option maxRecDepth 100000 in
theorem k_Reader_readBehind : ai_okM ai_big ai_cl ai_own m_Reader_readBehind := ai_ckM_of (pc := 1196) (pn := 11) (ps := []) (by decide +kernel) rfl rfl j_Reader_readBehind
set_option maxRecDepth 100000 in
theorem k_Reader_atArrow : ai_okM ai_big ai_cl ai_own m_Reader_atArrow := ai_ckM_of (pc := 1200) (pn := 11) (ps := []) (by decide +kernel) rfl rfl j_Reader_atArrow
set_option maxRecDepth 100000 in
theorem k_Reader_readWithin : ai_okM ai_big ai_cl ai_own m_Reader_readWithin := ai_ckM_of (pc := 1204) (pn := 11) (ps := []) (by decide +kernel) rfl rfl j_Reader_readWithin
set_option maxRecDepth 100000 in
theorem k_Reader_readMerge : ai_okM ai_big ai_cl ai_own m_Reader_readMerge := ai_ckM_of (pc := 1208) (pn := 11) (ps := []) (by decide +kernel) rfl rfl j_Reader_readMerge
set_option maxRecDepth 100000 in
theorem k_Reader_sampled : ai_okM ai_big ai_cl ai_own m_Reader_sampled := ai_ckM_of (pc := 1212) (pn := 11) (ps := []) (by decide +kernel) rfl rfl j_Reader_sampled
set_option maxRecDepth 100000 in
theorem k_Reader_operatorHere : ai_okM ai_big ai_cl ai_own m_Reader_operatorHere := ai_ckM_of (pc := 1216) (pn := 11) (ps := []) (by decide +kernel) rfl rfl j_Reader_operatorHere
set_option maxRecDepth 100000 in
theorem k_Reader_rankOf : ai_okM ai_big ai_cl ai_own m_Reader_rankOf := ai_ckM_of (pc := 1219) (pn := 11) (ps := []) (by decide +kernel) rfl rfl j_Reader_rankOf
set_option maxRecDepth 100000 in
theorem k_Reader_join : ai_okM ai_big ai_cl ai_own m_Reader_join := ai_ckM_of (pc := 1223) (pn := 11) (ps := []) (by decide +kernel) rfl rfl j_Reader_join
set_option maxRecDepth 100000 in
theorem k_Reader_readMove : ai_okM ai_big ai_cl ai_own m_Reader_readMove := ai_ckM_of (pc := 1227) (pn := 11) (ps := []) (by decide +kernel) rfl rfl j_Reader_readMove
set_option maxRecDepth 100000 in
theorem k_Automata_addMove : ai_okM ai_big ai_cl ai_own m_Automata_addMove := ai_ckM_of (pc := 1231) (pn := 6) (ps := []) (by decide +kernel) rfl rfl j_Automata_addMove
set_option maxRecDepth 100000 in
theorem k_Program_endNode : ai_okM ai_big ai_cl ai_own m_Program_endNode := ai_ckM_of (pc := 1235) (pn := 2) (ps := []) (by decide +kernel) rfl rfl j_Program_endNode
set_option maxRecDepth 100000 in
theorem k_Judge_judge : ai_okM ai_big ai_cl ai_own m_Judge_judge := ai_ckM_of (pc := 1239) (pn := 12) (ps := []) (by decide +kernel) rfl rfl j_Judge_judge
set_option maxRecDepth 100000 in
theorem k_Judge_lookFor : ai_okM ai_big ai_cl ai_own m_Judge_lookFor := ai_ckM_of (pc := 1243) (pn := 12) (ps := []) (by decide +kernel) rfl rfl j_Judge_lookFor
set_option maxRecDepth 100000 in
theorem k_Judge_judgeHeads : ai_okM ai_big ai_cl ai_own m_Judge_judgeHeads := ai_ckM_of (pc := 1247) (pn := 12) (ps := []) (by decide +kernel) rfl rfl j_Judge_judgeHeads
set_option maxRecDepth 100000 in
theorem k_Judge_judgeHead : ai_okM ai_big ai_cl ai_own m_Judge_judgeHead := ai_ckM_of (pc := 1251) (pn := 12) (ps := []) (by decide +kernel) rfl rfl j_Judge_judgeHead
set_option maxRecDepth 100000 in
theorem k_Judge_blameIf : ai_okM ai_big ai_cl ai_own m_Judge_blameIf := ai_ckM_of (pc := 1255) (pn := 12) (ps := []) (by decide +kernel) rfl rfl j_Judge_blameIf
set_option maxRecDepth 100000 in
theorem k_Letters_bit : ai_okM ai_big ai_cl ai_own m_Letters_bit := ai_ckM_of (pc := 1258) (pn := 4) (ps := []) (by decide +kernel) rfl rfl j_Letters_bit
set_option maxRecDepth 100000 in
theorem k_Judge_judgeNames : ai_okM ai_big ai_cl ai_own m_Judge_judgeNames := ai_ckM_of (pc := 1262) (pn := 12) (ps := []) (by decide +kernel) rfl rfl j_Judge_judgeNames
set_option maxRecDepth 100000 in
theorem k_Judge_isTruth : ai_okM ai_big ai_cl ai_own m_Judge_isTruth := ai_ckM_of (pc := 1267) (pn := 12) (ps := []) (by decide +kernel) rfl rfl j_Judge_isTruth
set_option maxRecDepth 100000 in
theorem k_Judge_judgeStates : ai_okM ai_big ai_cl ai_own m_Judge_judgeStates := ai_ckM_of (pc := 1271) (pn := 12) (ps := []) (by decide +kernel) rfl rfl j_Judge_judgeStates
set_option maxRecDepth 100000 in
theorem k_Judge_judgeTellings : ai_okM ai_big ai_cl ai_own m_Judge_judgeTellings := ai_ckM_of (pc := 1275) (pn := 12) (ps := []) (by decide +kernel) rfl rfl j_Judge_judgeTellings
set_option maxRecDepth 100000 in
theorem k_Judge_judgeSorts : ai_okM ai_big ai_cl ai_own m_Judge_judgeSorts := ai_ckM_of (pc := 1279) (pn := 12) (ps := []) (by decide +kernel) rfl rfl j_Judge_judgeSorts
set_option maxRecDepth 100000 in
theorem k_Judge_sortOf : ai_okM ai_big ai_cl ai_own m_Judge_sortOf := ai_ckM_of (pc := 1283) (pn := 12) (ps := []) (by decide +kernel) rfl rfl j_Judge_sortOf
set_option maxRecDepth 100000 in
theorem k_Judge_judgePartSorts : ai_okM ai_big ai_cl ai_own m_Judge_judgePartSorts := ai_ckM_of (pc := 1288) (pn := 12) (ps := []) (by decide +kernel) rfl rfl j_Judge_judgePartSorts
set_option maxRecDepth 100000 in
theorem k_Judge_judgeCallSorts : ai_okM ai_big ai_cl ai_own m_Judge_judgeCallSorts := ai_ckM_of (pc := 1292) (pn := 12) (ps := []) (by decide +kernel) rfl rfl j_Judge_judgeCallSorts
set_option maxRecDepth 100000 in
theorem k_Judge_mustBe : ai_okM ai_big ai_cl ai_own m_Judge_mustBe := ai_ckM_of (pc := 1296) (pn := 12) (ps := []) (by decide +kernel) rfl rfl j_Judge_mustBe
set_option maxRecDepth 100000 in
theorem k_Judge_judgeEquationSorts : ai_okM ai_big ai_cl ai_own m_Judge_judgeEquationSorts := ai_ckM_of (pc := 1300) (pn := 12) (ps := []) (by decide +kernel) rfl rfl j_Judge_judgeEquationSorts
set_option maxRecDepth 100000 in
theorem k_Judge_judgeRings : ai_okM ai_big ai_cl ai_own m_Judge_judgeRings := ai_ckM_of (pc := 1304) (pn := 12) (ps := []) (by decide +kernel) rfl rfl j_Judge_judgeRings
set_option maxRecDepth 100000 in
theorem k_Judge_judgeClocks : ai_okM ai_big ai_cl ai_own m_Judge_judgeClocks := ai_ckM_of (pc := 1308) (pn := 12) (ps := []) (by decide +kernel) rfl rfl j_Judge_judgeClocks
set_option maxRecDepth 100000 in
theorem k_Judge_clockOf : ai_okM ai_big ai_cl ai_own m_Judge_clockOf := ai_ckM_of (pc := 1312) (pn := 12) (ps := []) (by decide +kernel) rfl rfl j_Judge_clockOf
set_option maxRecDepth 100000 in
theorem k_Judge_mustBeOn : ai_okM ai_big ai_cl ai_own m_Judge_mustBeOn := ai_ckM_of (pc := 1316) (pn := 12) (ps := []) (by decide +kernel) rfl rfl j_Judge_mustBeOn
set_option maxRecDepth 100000 in
theorem k_Judge_clockOfCall : ai_okM ai_big ai_cl ai_own m_Judge_clockOfCall := ai_ckM_of (pc := 1320) (pn := 12) (ps := []) (by decide +kernel) rfl rfl j_Judge_clockOfCall
set_option maxRecDepth 100000 in
theorem k_Judge_commonClock : ai_okM ai_big ai_cl ai_own m_Judge_commonClock := ai_ckM_of (pc := 1324) (pn := 12) (ps := []) (by decide +kernel) rfl rfl j_Judge_commonClock
set_option maxRecDepth 100000 in
theorem k_Judge_judgeBases : ai_okM ai_big ai_cl ai_own m_Judge_judgeBases := ai_ckM_of (pc := 1328) (pn := 12) (ps := []) (by decide +kernel) rfl rfl j_Judge_judgeBases
set_option maxRecDepth 100000 in
theorem k_Judge_findBare : ai_okM ai_big ai_cl ai_own m_Judge_findBare := ai_ckM_of (pc := 1332) (pn := 12) (ps := []) (by decide +kernel) rfl rfl j_Judge_findBare
set_option maxRecDepth 100000 in
theorem k_Judge_isBare : ai_okM ai_big ai_cl ai_own m_Judge_isBare := ai_ckM_of (pc := 1336) (pn := 12) (ps := []) (by decide +kernel) rfl rfl j_Judge_isBare
set_option maxRecDepth 100000 in
theorem k_Parts_ownLetter : ai_okM ai_big ai_cl ai_own m_Parts_ownLetter := ai_ckM_of (pc := 1340) (pn := 3) (ps := []) (by decide +kernel) rfl rfl j_Parts_ownLetter
set_option maxRecDepth 100000 in
theorem k_Judge_judgeBareParts : ai_okM ai_big ai_cl ai_own m_Judge_judgeBareParts := ai_ckM_of (pc := 1344) (pn := 12) (ps := []) (by decide +kernel) rfl rfl j_Judge_judgeBareParts
set_option maxRecDepth 100000 in
theorem k_Judge_mustHave : ai_okM ai_big ai_cl ai_own m_Judge_mustHave := ai_ckM_of (pc := 1348) (pn := 12) (ps := []) (by decide +kernel) rfl rfl j_Judge_mustHave
set_option maxRecDepth 100000 in
theorem k_Judge_judgeBareRest : ai_okM ai_big ai_cl ai_own m_Judge_judgeBareRest := ai_ckM_of (pc := 1352) (pn := 12) (ps := []) (by decide +kernel) rfl rfl j_Judge_judgeBareRest
set_option maxRecDepth 100000 in
theorem k_Judge_judgeCycles : ai_okM ai_big ai_cl ai_own m_Judge_judgeCycles := ai_ckM_of (pc := 1356) (pn := 12) (ps := []) (by decide +kernel) rfl rfl j_Judge_judgeCycles
set_option maxRecDepth 100000 in
theorem k_Judge_findNeeds : ai_okM ai_big ai_cl ai_own m_Judge_findNeeds := ai_ckM_of (pc := 1360) (pn := 12) (ps := []) (by decide +kernel) rfl rfl j_Judge_findNeeds
set_option maxRecDepth 100000 in
theorem k_Judge_lettersIn : ai_okM ai_big ai_cl ai_own m_Judge_lettersIn := ai_ckM_of (pc := 1364) (pn := 12) (ps := []) (by decide +kernel) rfl rfl j_Judge_lettersIn
set_option maxRecDepth 100000 in
theorem k_Planner_init : ai_okM ai_big ai_cl ai_own m_Planner_init := ai_ckM_of (pc := 1372) (pn := 19) (ps := []) (by decide +kernel) rfl rfl j_Planner_init
set_option maxRecDepth 100000 in
theorem k_Planner_plan : ai_okM ai_big ai_cl ai_own m_Planner_plan := ai_ckM_of (pc := 1399) (pn := 19) (ps := []) (by decide +kernel) rfl rfl j_Planner_plan
set_option maxRecDepth 100000 in
theorem k_Planner_count : ai_okM ai_big ai_cl ai_own m_Planner_count := ai_ckM_of (pc := 1403) (pn := 19) (ps := []) (by decide +kernel) rfl rfl j_Planner_count
set_option maxRecDepth 100000 in
theorem k_Planner_valuesOf : ai_okM ai_big ai_cl ai_own m_Planner_valuesOf := ai_ckM_of (pc := 1408) (pn := 19) (ps := []) (by decide +kernel) rfl rfl j_Planner_valuesOf
set_option maxRecDepth 100000 in
theorem k_Planner_layOut : ai_okM ai_big ai_cl ai_own m_Planner_layOut := ai_ckM_of (pc := 1415) (pn := 19) (ps := []) (by decide +kernel) rfl rfl j_Planner_layOut
