set_option maxRecDepth 100000 in
theorem k_Planner_fillFirstMemory : ai_okM ai_big ai_cl ai_own m_Planner_fillFirstMemory := ai_ckM_of (pc := 1419) (pn := 19) (ps := []) (by decide +kernel) rfl rfl j_Planner_fillFirstMemory
set_option maxRecDepth 100000 in
theorem k_Planner_settleClocks : ai_okM ai_big ai_cl ai_own m_Planner_settleClocks := ai_ckM_of (pc := 1424) (pn := 19) (ps := []) (by decide +kernel) rfl rfl j_Planner_settleClocks
set_option maxRecDepth 100000 in
theorem k_Planner_settle : ai_okM ai_big ai_cl ai_own m_Planner_settle := ai_ckM_of (pc := 1428) (pn := 19) (ps := []) (by decide +kernel) rfl rfl j_Planner_settle
set_option maxRecDepth 100000 in
theorem k_Planner_schedule : ai_okM ai_big ai_cl ai_own m_Planner_schedule := ai_ckM_of (pc := 1432) (pn := 19) (ps := []) (by decide +kernel) rfl rfl j_Planner_schedule
set_option maxRecDepth 100000 in
theorem k_Planner_beginSchedule : ai_okM ai_big ai_cl ai_own m_Planner_beginSchedule := ai_ckM_of (pc := 1436) (pn := 19) (ps := []) (by decide +kernel) rfl rfl j_Planner_beginSchedule
set_option maxRecDepth 100000 in
theorem k_Planner_scheduleStrong : ai_okM ai_big ai_cl ai_own m_Planner_scheduleStrong := ai_ckM_of (pc := 1441) (pn := 19) (ps := []) (by decide +kernel) rfl rfl j_Planner_scheduleStrong
set_option maxRecDepth 100000 in
theorem k_Planner_scheduleMoves : ai_okM ai_big ai_cl ai_own m_Planner_scheduleMoves := ai_ckM_of (pc := 1445) (pn := 19) (ps := []) (by decide +kernel) rfl rfl j_Planner_scheduleMoves
set_option maxRecDepth 100000 in
theorem k_Planner_addStep : ai_okM ai_big ai_cl ai_own m_Planner_addStep := ai_ckM_of (pc := 1449) (pn := 19) (ps := []) (by decide +kernel) rfl rfl j_Planner_addStep
set_option maxRecDepth 100000 in
theorem k_Planner_scheduleEquations : ai_okM ai_big ai_cl ai_own m_Planner_scheduleEquations := ai_ckM_of (pc := 1453) (pn := 19) (ps := []) (by decide +kernel) rfl rfl j_Planner_scheduleEquations
set_option maxRecDepth 100000 in
theorem k_Planner_scheduleEquation : ai_okM ai_big ai_cl ai_own m_Planner_scheduleEquation := ai_ckM_of (pc := 1457) (pn := 19) (ps := []) (by decide +kernel) rfl rfl j_Planner_scheduleEquation
set_option maxRecDepth 100000 in
theorem k_Planner_scheduleEnd : ai_okM ai_big ai_cl ai_own m_Planner_scheduleEnd := ai_ckM_of (pc := 1461) (pn := 19) (ps := []) (by decide +kernel) rfl rfl j_Planner_scheduleEnd
set_option maxRecDepth 100000 in
theorem k_Machine_load : ai_okM ai_big ai_cl ai_own m_Machine_load := ai_ckM_of (pc := 1465) (pn := 7) (ps := []) (by decide +kernel) rfl rfl j_Machine_load
set_option maxRecDepth 100000 in
theorem k_House_out : ai_okM ai_big ai_cl ai_own m_House_out := ai_ckM_of (pc := 1473) (pn := 1) (ps := []) (by decide +kernel) rfl rfl j_House_out
set_option maxRecDepth 100000 in
theorem k_House_flow : ai_okM ai_big ai_cl ai_own m_House_flow := ai_ckM_of (pc := 1496) (pn := 1) (ps := []) (by decide +kernel) rfl rfl j_House_flow
set_option maxRecDepth 100000 in
theorem k_Model_init : ai_okM ai_big ai_cl ai_own m_Model_init := ai_ckM_of (pc := 1502) (pn := 10) (ps := []) (by decide +kernel) rfl rfl j_Model_init
set_option maxRecDepth 100000 in
theorem k_Model_thrown : ai_okM ai_big ai_cl ai_own m_Model_thrown := ai_ckM_of (pc := 1881) (pn := 10) (ps := []) (by decide +kernel) rfl rfl j_Model_thrown
set_option maxRecDepth 100000 in
theorem k_Model_type : ai_okM ai_big ai_cl ai_own m_Model_type := ai_ckM_of (pc := 1885) (pn := 10) (ps := []) (by decide +kernel) rfl rfl j_Model_type
set_option maxRecDepth 100000 in
theorem k_Model_module : ai_okM ai_big ai_cl ai_own m_Model_module := ai_ckM_of (pc := 1890) (pn := 10) (ps := []) (by decide +kernel) rfl rfl j_Model_module
set_option maxRecDepth 100000 in
theorem k_Model_isModule : ai_okM ai_big ai_cl ai_own m_Model_isModule := ai_ckM_of (pc := 1894) (pn := 10) (ps := []) (by decide +kernel) rfl rfl j_Model_isModule
set_option maxRecDepth 100000 in
theorem k_Model_readAll : ai_okM ai_big ai_cl ai_own m_Model_readAll := ai_ckM_of (pc := 1898) (pn := 10) (ps := []) (by decide +kernel) rfl rfl j_Model_readAll
set_option maxRecDepth 100000 in
theorem k_Model_readNode : ai_okM ai_big ai_cl ai_own m_Model_readNode := ai_ckM_of (pc := 1902) (pn := 10) (ps := []) (by decide +kernel) rfl rfl j_Model_readNode
set_option maxRecDepth 100000 in
theorem k_Model_isName : ai_okM ai_big ai_cl ai_own m_Model_isName := ai_ckM_of (pc := 1906) (pn := 10) (ps := []) (by decide +kernel) rfl rfl j_Model_isName
set_option maxRecDepth 100000 in
theorem k_Model_see : ai_okM ai_big ai_cl ai_own m_Model_see := ai_ckM_of (pc := 1910) (pn := 10) (ps := []) (by decide +kernel) rfl rfl j_Model_see
set_option maxRecDepth 100000 in
theorem k_Model_within : ai_okM ai_big ai_cl ai_own m_Model_within := ai_ckM_of (pc := 1913) (pn := 10) (ps := []) (by decide +kernel) rfl rfl j_Model_within
set_option maxRecDepth 100000 in
theorem k_Model_at : ai_okM ai_big ai_cl ai_own m_Model_at := ai_ckM_of (pc := 1917) (pn := 10) (ps := []) (by decide +kernel) rfl rfl j_Model_at
set_option maxRecDepth 100000 in
theorem k_Model_want : ai_okM ai_big ai_cl ai_own m_Model_want := ai_ckM_of (pc := 1921) (pn := 10) (ps := []) (by decide +kernel) rfl rfl j_Model_want
set_option maxRecDepth 100000 in
theorem k_Model_readFlows : ai_okM ai_big ai_cl ai_own m_Model_readFlows := ai_ckM_of (pc := 1925) (pn := 10) (ps := []) (by decide +kernel) rfl rfl j_Model_readFlows
set_option maxRecDepth 100000 in
theorem k_Model_takeLetter : ai_okM ai_big ai_cl ai_own m_Model_takeLetter := ai_ckM_of (pc := 1929) (pn := 10) (ps := []) (by decide +kernel) rfl rfl j_Model_takeLetter
set_option maxRecDepth 100000 in
theorem k_Model_isLetter : ai_okM ai_big ai_cl ai_own m_Model_isLetter := ai_ckM_of (pc := 1933) (pn := 10) (ps := []) (by decide +kernel) rfl rfl j_Model_isLetter
set_option maxRecDepth 100000 in
theorem k_Model_note : ai_okM ai_big ai_cl ai_own m_Model_note := ai_ckM_of (pc := 1937) (pn := 10) (ps := []) (by decide +kernel) rfl rfl j_Model_note
set_option maxRecDepth 100000 in
theorem k_Model_readClock : ai_okM ai_big ai_cl ai_own m_Model_readClock := ai_ckM_of (pc := 1941) (pn := 10) (ps := []) (by decide +kernel) rfl rfl j_Model_readClock
set_option maxRecDepth 100000 in
theorem k_Model_readNumber : ai_okM ai_big ai_cl ai_own m_Model_readNumber := ai_ckM_of (pc := 1945) (pn := 10) (ps := []) (by decide +kernel) rfl rfl j_Model_readNumber
set_option maxRecDepth 100000 in
theorem k_Model_isDigit : ai_okM ai_big ai_cl ai_own m_Model_isDigit := ai_ckM_of (pc := 1949) (pn := 10) (ps := []) (by decide +kernel) rfl rfl j_Model_isDigit
set_option maxRecDepth 100000 in
theorem k_Model_readAutomaton : ai_okM ai_big ai_cl ai_own m_Model_readAutomaton := ai_ckM_of (pc := 1953) (pn := 10) (ps := []) (by decide +kernel) rfl rfl j_Model_readAutomaton
set_option maxRecDepth 100000 in
theorem k_Model_readEquation : ai_okM ai_big ai_cl ai_own m_Model_readEquation := ai_ckM_of (pc := 1957) (pn := 10) (ps := []) (by decide +kernel) rfl rfl j_Model_readEquation
set_option maxRecDepth 100000 in
theorem k_Model_readX : ai_okM ai_big ai_cl ai_own m_Model_readX := ai_ckM_of (pc := 1961) (pn := 10) (ps := []) (by decide +kernel) rfl rfl j_Model_readX
set_option maxRecDepth 100000 in
theorem k_Model_readC : ai_okM ai_big ai_cl ai_own m_Model_readC := ai_ckM_of (pc := 1965) (pn := 10) (ps := []) (by decide +kernel) rfl rfl j_Model_readC
set_option maxRecDepth 100000 in
theorem k_Model_readD : ai_okM ai_big ai_cl ai_own m_Model_readD := ai_ckM_of (pc := 1969) (pn := 10) (ps := []) (by decide +kernel) rfl rfl j_Model_readD
set_option maxRecDepth 100000 in
theorem k_Model_readE : ai_okM ai_big ai_cl ai_own m_Model_readE := ai_ckM_of (pc := 1973) (pn := 10) (ps := []) (by decide +kernel) rfl rfl j_Model_readE
set_option maxRecDepth 100000 in
theorem k_Model_readF : ai_okM ai_big ai_cl ai_own m_Model_readF := ai_ckM_of (pc := 1977) (pn := 10) (ps := []) (by decide +kernel) rfl rfl j_Model_readF
set_option maxRecDepth 100000 in
theorem k_Model_readG : ai_okM ai_big ai_cl ai_own m_Model_readG := ai_ckM_of (pc := 1981) (pn := 10) (ps := []) (by decide +kernel) rfl rfl j_Model_readG
set_option maxRecDepth 100000 in
theorem k_Model_readH : ai_okM ai_big ai_cl ai_own m_Model_readH := ai_ckM_of (pc := 1985) (pn := 10) (ps := []) (by decide +kernel) rfl rfl j_Model_readH
set_option maxRecDepth 100000 in
theorem k_Model_readJ : ai_okM ai_big ai_cl ai_own m_Model_readJ := ai_ckM_of (pc := 1989) (pn := 10) (ps := []) (by decide +kernel) rfl rfl j_Model_readJ
set_option maxRecDepth 100000 in
theorem k_Model_readK : ai_okM ai_big ai_cl ai_own m_Model_readK := ai_ckM_of (pc := 1993) (pn := 10) (ps := []) (by decide +kernel) rfl rfl j_Model_readK
set_option maxRecDepth 100000 in
theorem k_Model_isArrow : ai_okM ai_big ai_cl ai_own m_Model_isArrow := ai_ckM_of (pc := 1997) (pn := 10) (ps := []) (by decide +kernel) rfl rfl j_Model_isArrow
set_option maxRecDepth 100000 in
theorem k_Model_seeNext : ai_okM ai_big ai_cl ai_own m_Model_seeNext := ai_ckM_of (pc := 2001) (pn := 10) (ps := []) (by decide +kernel) rfl rfl j_Model_seeNext
set_option maxRecDepth 100000 in
theorem k_Model_readPrefix : ai_okM ai_big ai_cl ai_own m_Model_readPrefix := ai_ckM_of (pc := 2005) (pn := 10) (ps := []) (by decide +kernel) rfl rfl j_Model_readPrefix
set_option maxRecDepth 100000 in
theorem k_Model_open : ai_okM ai_big ai_cl ai_own m_Model_open := ai_ckM_of (pc := 2009) (pn := 10) (ps := []) (by decide +kernel) rfl rfl j_Model_open
