set_option maxRecDepth 100000 in
theorem k_Model_makePart : ai_okM ai_big ai_cl ai_own m_Model_makePart := ai_ckM_of (pc := 2013) (pn := 10) (ps := []) (by decide +kernel) rfl rfl j_Model_makePart
set_option maxRecDepth 100000 in
theorem k_Model_readBracket : ai_okM ai_big ai_cl ai_own m_Model_readBracket := ai_ckM_of (pc := 2017) (pn := 10) (ps := []) (by decide +kernel) rfl rfl j_Model_readBracket
set_option maxRecDepth 100000 in
theorem k_Model_readMerge : ai_okM ai_big ai_cl ai_own m_Model_readMerge := ai_ckM_of (pc := 2021) (pn := 10) (ps := []) (by decide +kernel) rfl rfl j_Model_readMerge
set_option maxRecDepth 100000 in
theorem k_Model_readCall : ai_okM ai_big ai_cl ai_own m_Model_readCall := ai_ckM_of (pc := 2025) (pn := 10) (ps := []) (by decide +kernel) rfl rfl j_Model_readCall
set_option maxRecDepth 100000 in
theorem k_Model_readChoice : ai_okM ai_big ai_cl ai_own m_Model_readChoice := ai_ckM_of (pc := 2029) (pn := 10) (ps := []) (by decide +kernel) rfl rfl j_Model_readChoice
set_option maxRecDepth 100000 in
theorem k_Model_readArrow : ai_okM ai_big ai_cl ai_own m_Model_readArrow := ai_ckM_of (pc := 2033) (pn := 10) (ps := []) (by decide +kernel) rfl rfl j_Model_readArrow
set_option maxRecDepth 100000 in
theorem k_Model_readTransition : ai_okM ai_big ai_cl ai_own m_Model_readTransition := ai_ckM_of (pc := 2037) (pn := 10) (ps := []) (by decide +kernel) rfl rfl j_Model_readTransition
set_option maxRecDepth 100000 in
theorem k_Model_checkKind : ai_okM ai_big ai_cl ai_own m_Model_checkKind := ai_ckM_of (pc := 2041) (pn := 10) (ps := []) (by decide +kernel) rfl rfl j_Model_checkKind
set_option maxRecDepth 100000 in
theorem k_Model_checkNames : ai_okM ai_big ai_cl ai_own m_Model_checkNames := ai_ckM_of (pc := 2045) (pn := 10) (ps := []) (by decide +kernel) rfl rfl j_Model_checkNames
set_option maxRecDepth 100000 in
theorem k_Model_needTruth : ai_okM ai_big ai_cl ai_own m_Model_needTruth := ai_ckM_of (pc := 2049) (pn := 10) (ps := []) (by decide +kernel) rfl rfl j_Model_needTruth
set_option maxRecDepth 100000 in
theorem k_Model_checkPart : ai_okM ai_big ai_cl ai_own m_Model_checkPart := ai_ckM_of (pc := 2053) (pn := 10) (ps := []) (by decide +kernel) rfl rfl j_Model_checkPart
set_option maxRecDepth 100000 in
theorem k_Model_needLetter : ai_okM ai_big ai_cl ai_own m_Model_needLetter := ai_ckM_of (pc := 2057) (pn := 10) (ps := []) (by decide +kernel) rfl rfl j_Model_needLetter
set_option maxRecDepth 100000 in
theorem k_Model_checkLefts : ai_okM ai_big ai_cl ai_own m_Model_checkLefts := ai_ckM_of (pc := 2061) (pn := 10) (ps := []) (by decide +kernel) rfl rfl j_Model_checkLefts
set_option maxRecDepth 100000 in
theorem k_Model_isSecond : ai_okM ai_big ai_cl ai_own m_Model_isSecond := ai_ckM_of (pc := 2065) (pn := 10) (ps := []) (by decide +kernel) rfl rfl j_Model_isSecond
set_option maxRecDepth 100000 in
theorem k_Model_ownerOf : ai_okM ai_big ai_cl ai_own m_Model_ownerOf := ai_ckM_of (pc := 2069) (pn := 10) (ps := []) (by decide +kernel) rfl rfl j_Model_ownerOf
set_option maxRecDepth 100000 in
theorem k_Model_isLeft : ai_okM ai_big ai_cl ai_own m_Model_isLeft := ai_ckM_of (pc := 2073) (pn := 10) (ps := []) (by decide +kernel) rfl rfl j_Model_isLeft
set_option maxRecDepth 100000 in
theorem k_Model_hasLeft : ai_okM ai_big ai_cl ai_own m_Model_hasLeft := ai_ckM_of (pc := 2077) (pn := 10) (ps := []) (by decide +kernel) rfl rfl j_Model_hasLeft
set_option maxRecDepth 100000 in
theorem k_Model_checkStates : ai_okM ai_big ai_cl ai_own m_Model_checkStates := ai_ckM_of (pc := 2081) (pn := 10) (ps := []) (by decide +kernel) rfl rfl j_Model_checkStates
set_option maxRecDepth 100000 in
theorem k_Model_isIn : ai_okM ai_big ai_cl ai_own m_Model_isIn := ai_ckM_of (pc := 2085) (pn := 10) (ps := []) (by decide +kernel) rfl rfl j_Model_isIn
set_option maxRecDepth 100000 in
theorem k_Model_findTypes : ai_okM ai_big ai_cl ai_own m_Model_findTypes := ai_ckM_of (pc := 2089) (pn := 10) (ps := []) (by decide +kernel) rfl rfl j_Model_findTypes
set_option maxRecDepth 100000 in
theorem k_Model_typeOfLetter : ai_okM ai_big ai_cl ai_own m_Model_typeOfLetter := ai_ckM_of (pc := 2093) (pn := 10) (ps := []) (by decide +kernel) rfl rfl j_Model_typeOfLetter
set_option maxRecDepth 100000 in
theorem k_Model_checkTypes : ai_okM ai_big ai_cl ai_own m_Model_checkTypes := ai_ckM_of (pc := 2097) (pn := 10) (ps := []) (by decide +kernel) rfl rfl j_Model_checkTypes
set_option maxRecDepth 100000 in
theorem k_Model_must : ai_okM ai_big ai_cl ai_own m_Model_must := ai_ckM_of (pc := 2101) (pn := 10) (ps := []) (by decide +kernel) rfl rfl j_Model_must
set_option maxRecDepth 100000 in
theorem k_Model_checkCall : ai_okM ai_big ai_cl ai_own m_Model_checkCall := ai_ckM_of (pc := 2105) (pn := 10) (ps := []) (by decide +kernel) rfl rfl j_Model_checkCall
set_option maxRecDepth 100000 in
theorem k_Model_checkEquation : ai_okM ai_big ai_cl ai_own m_Model_checkEquation := ai_ckM_of (pc := 2109) (pn := 10) (ps := []) (by decide +kernel) rfl rfl j_Model_checkEquation
set_option maxRecDepth 100000 in
theorem k_Model_findClock : ai_okM ai_big ai_cl ai_own m_Model_findClock := ai_ckM_of (pc := 2113) (pn := 10) (ps := []) (by decide +kernel) rfl rfl j_Model_findClock
set_option maxRecDepth 100000 in
theorem k_Model_clockOf : ai_okM ai_big ai_cl ai_own m_Model_clockOf := ai_ckM_of (pc := 2117) (pn := 10) (ps := []) (by decide +kernel) rfl rfl j_Model_clockOf
set_option maxRecDepth 100000 in
theorem k_Model_join : ai_okM ai_big ai_cl ai_own m_Model_join := ai_ckM_of (pc := 2121) (pn := 10) (ps := []) (by decide +kernel) rfl rfl j_Model_join
set_option maxRecDepth 100000 in
theorem k_Model_checkClocks : ai_okM ai_big ai_cl ai_own m_Model_checkClocks := ai_ckM_of (pc := 2125) (pn := 10) (ps := []) (by decide +kernel) rfl rfl j_Model_checkClocks
set_option maxRecDepth 100000 in
theorem k_Model_mustBeOn : ai_okM ai_big ai_cl ai_own m_Model_mustBeOn := ai_ckM_of (pc := 2129) (pn := 10) (ps := []) (by decide +kernel) rfl rfl j_Model_mustBeOn
set_option maxRecDepth 100000 in
theorem k_Model_checkEquationClock : ai_okM ai_big ai_cl ai_own m_Model_checkEquationClock := ai_ckM_of (pc := 2133) (pn := 10) (ps := []) (by decide +kernel) rfl rfl j_Model_checkEquationClock
set_option maxRecDepth 100000 in
theorem k_Model_eqClock : ai_okM ai_big ai_cl ai_own m_Model_eqClock := ai_ckM_of (pc := 2137) (pn := 10) (ps := []) (by decide +kernel) rfl rfl j_Model_eqClock
set_option maxRecDepth 100000 in
theorem k_Model_checkInAutomaton : ai_okM ai_big ai_cl ai_own m_Model_checkInAutomaton := ai_ckM_of (pc := 2141) (pn := 10) (ps := []) (by decide +kernel) rfl rfl j_Model_checkInAutomaton
set_option maxRecDepth 100000 in
theorem k_Model_checkRings : ai_okM ai_big ai_cl ai_own m_Model_checkRings := ai_ckM_of (pc := 2145) (pn := 10) (ps := []) (by decide +kernel) rfl rfl j_Model_checkRings
set_option maxRecDepth 100000 in
theorem k_Model_checkFirsts : ai_okM ai_big ai_cl ai_own m_Model_checkFirsts := ai_ckM_of (pc := 2149) (pn := 10) (ps := []) (by decide +kernel) rfl rfl j_Model_checkFirsts
set_option maxRecDepth 100000 in
theorem k_Model_findFirsts : ai_okM ai_big ai_cl ai_own m_Model_findFirsts := ai_ckM_of (pc := 2153) (pn := 10) (ps := []) (by decide +kernel) rfl rfl j_Model_findFirsts
set_option maxRecDepth 100000 in
theorem k_Model_findFirst : ai_okM ai_big ai_cl ai_own m_Model_findFirst := ai_ckM_of (pc := 2157) (pn := 10) (ps := []) (by decide +kernel) rfl rfl j_Model_findFirst
set_option maxRecDepth 100000 in
theorem k_Model_checkFirst : ai_okM ai_big ai_cl ai_own m_Model_checkFirst := ai_ckM_of (pc := 2161) (pn := 10) (ps := []) (by decide +kernel) rfl rfl j_Model_checkFirst
set_option maxRecDepth 100000 in
theorem k_Model_mustHave : ai_okM ai_big ai_cl ai_own m_Model_mustHave := ai_ckM_of (pc := 2165) (pn := 10) (ps := []) (by decide +kernel) rfl rfl j_Model_mustHave
set_option maxRecDepth 100000 in
theorem k_Model_letterMustHave : ai_okM ai_big ai_cl ai_own m_Model_letterMustHave := ai_ckM_of (pc := 2169) (pn := 10) (ps := []) (by decide +kernel) rfl rfl j_Model_letterMustHave
set_option maxRecDepth 100000 in
theorem k_Model_findLater : ai_okM ai_big ai_cl ai_own m_Model_findLater := ai_ckM_of (pc := 2173) (pn := 10) (ps := []) (by decide +kernel) rfl rfl j_Model_findLater
set_option maxRecDepth 100000 in
theorem k_Model_checkCycles : ai_okM ai_big ai_cl ai_own m_Model_checkCycles := ai_ckM_of (pc := 2177) (pn := 10) (ps := []) (by decide +kernel) rfl rfl j_Model_checkCycles
set_option maxRecDepth 100000 in
theorem k_Model_findHangs : ai_okM ai_big ai_cl ai_own m_Model_findHangs := ai_ckM_of (pc := 2181) (pn := 10) (ps := []) (by decide +kernel) rfl rfl j_Model_findHangs
set_option maxRecDepth 100000 in
theorem k_Model_hangOn : ai_okM ai_big ai_cl ai_own m_Model_hangOn := ai_ckM_of (pc := 2185) (pn := 10) (ps := []) (by decide +kernel) rfl rfl j_Model_hangOn
set_option maxRecDepth 100000 in
theorem k_Model_findOrder : ai_okM ai_big ai_cl ai_own m_Model_findOrder := ai_ckM_of (pc := 2189) (pn := 10) (ps := []) (by decide +kernel) rfl rfl j_Model_findOrder
set_option maxRecDepth 100000 in
theorem k_Model_settleClocks : ai_okM ai_big ai_cl ai_own m_Model_settleClocks := ai_ckM_of (pc := 2193) (pn := 10) (ps := []) (by decide +kernel) rfl rfl j_Model_settleClocks
set_option maxRecDepth 100000 in
theorem k_Model_free : ai_okM ai_big ai_cl ai_own m_Model_free := ai_ckM_of (pc := 2197) (pn := 10) (ps := []) (by decide +kernel) rfl rfl j_Model_free
set_option maxRecDepth 100000 in
theorem k_Model_findSlots : ai_okM ai_big ai_cl ai_own m_Model_findSlots := ai_ckM_of (pc := 2201) (pn := 10) (ps := []) (by decide +kernel) rfl rfl j_Model_findSlots
