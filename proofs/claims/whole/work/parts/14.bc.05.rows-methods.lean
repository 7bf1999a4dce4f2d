set_option maxRecDepth 100000 in
theorem k_Model_place : ai_okM ai_big ai_cl ai_own m_Model_place := ai_ckM_of (pc := 2205) (pn := 10) (ps := []) (by decide +kernel) rfl rfl j_Model_place
set_option maxRecDepth 100000 in
theorem k_Model_least : ai_okM ai_big ai_cl ai_own m_Model_least := ai_ckM_of (pc := 2209) (pn := 10) (ps := []) (by decide +kernel) rfl rfl j_Model_least
set_option maxRecDepth 100000 in
theorem k_Model_fault : ai_okM ai_big ai_cl ai_own m_Model_fault := ai_ckM_of (pc := 2214) (pn := 10) (ps := []) (by decide +kernel) rfl rfl j_Model_fault
set_option maxRecDepth 100000 in
theorem k_Model_node : ai_okM ai_big ai_cl ai_own m_Model_node := ai_ckM_of (pc := 2218) (pn := 10) (ps := []) (by decide +kernel) rfl rfl j_Model_node
set_option maxRecDepth 100000 in
theorem k_Model_isNode : ai_okM ai_big ai_cl ai_own m_Model_isNode := ai_ckM_of (pc := 2222) (pn := 10) (ps := []) (by decide +kernel) rfl rfl j_Model_isNode
set_option maxRecDepth 100000 in
theorem k_Model_make : ai_okM ai_big ai_cl ai_own m_Model_make := ai_ckM_of (pc := 2226) (pn := 10) (ps := []) (by decide +kernel) rfl rfl j_Model_make
set_option maxRecDepth 100000 in
theorem k_Model_canBe : ai_okM ai_big ai_cl ai_own m_Model_canBe := ai_ckM_of (pc := 2230) (pn := 10) (ps := []) (by decide +kernel) rfl rfl j_Model_canBe
set_option maxRecDepth 100000 in
theorem k_Model_put : ai_okM ai_big ai_cl ai_own m_Model_put := ai_ckM_of (pc := 2234) (pn := 10) (ps := []) (by decide +kernel) rfl rfl j_Model_put
set_option maxRecDepth 100000 in
theorem k_Model_isInstance : ai_okM ai_big ai_cl ai_own m_Model_isInstance := ai_ckM_of (pc := 2238) (pn := 10) (ps := []) (by decide +kernel) rfl rfl j_Model_isInstance
set_option maxRecDepth 100000 in
theorem k_Model_tick : ai_okM ai_big ai_cl ai_own m_Model_tick := ai_ckM_of (pc := 2242) (pn := 10) (ps := []) (by decide +kernel) rfl rfl j_Model_tick
set_option maxRecDepth 100000 in
theorem k_Model_tickNode : ai_okM ai_big ai_cl ai_own m_Model_tickNode := ai_ckM_of (pc := 2246) (pn := 10) (ps := []) (by decide +kernel) rfl rfl j_Model_tickNode
set_option maxRecDepth 100000 in
theorem k_Model_doLetter : ai_okM ai_big ai_cl ai_own m_Model_doLetter := ai_ckM_of (pc := 2250) (pn := 10) (ps := []) (by decide +kernel) rfl rfl j_Model_doLetter
set_option maxRecDepth 100000 in
theorem k_Model_doEquation : ai_okM ai_big ai_cl ai_own m_Model_doEquation := ai_ckM_of (pc := 2254) (pn := 10) (ps := []) (by decide +kernel) rfl rfl j_Model_doEquation
set_option maxRecDepth 100000 in
theorem k_Model_workAll : ai_okM ai_big ai_cl ai_own m_Model_workAll := ai_ckM_of (pc := 2258) (pn := 10) (ps := []) (by decide +kernel) rfl rfl j_Model_workAll
set_option maxRecDepth 100000 in
theorem k_Model_isOn : ai_okM ai_big ai_cl ai_own m_Model_isOn := ai_ckM_of (pc := 2262) (pn := 10) (ps := []) (by decide +kernel) rfl rfl j_Model_isOn
set_option maxRecDepth 100000 in
theorem k_Model_work : ai_okM ai_big ai_cl ai_own m_Model_work := ai_ckM_of (pc := 2266) (pn := 10) (ps := []) (by decide +kernel) rfl rfl j_Model_work
set_option maxRecDepth 100000 in
theorem k_Model_valueAt : ai_okM ai_big ai_cl ai_own m_Model_valueAt := ai_ckM_of (pc := 2270) (pn := 10) (ps := []) (by decide +kernel) rfl rfl j_Model_valueAt
set_option maxRecDepth 100000 in
theorem k_Model_divided : ai_okM ai_big ai_cl ai_own m_Model_divided := ai_ckM_of (pc := 2274) (pn := 10) (ps := []) (by decide +kernel) rfl rfl j_Model_divided
set_option maxRecDepth 100000 in
theorem k_Model_fail : ai_okM ai_big ai_cl ai_own m_Model_fail := ai_ckM_of (pc := 2278) (pn := 10) (ps := []) (by decide +kernel) rfl rfl j_Model_fail
set_option maxRecDepth 100000 in
theorem k_Model_call : ai_okM ai_big ai_cl ai_own m_Model_call := ai_ckM_of (pc := 2282) (pn := 10) (ps := []) (by decide +kernel) rfl rfl j_Model_call
set_option maxRecDepth 100000 in
theorem k_Model_renew : ai_okM ai_big ai_cl ai_own m_Model_renew := ai_ckM_of (pc := 2286) (pn := 10) (ps := []) (by decide +kernel) rfl rfl j_Model_renew
set_option maxRecDepth 100000 in
theorem k_Model_choose : ai_okM ai_big ai_cl ai_own m_Model_choose := ai_ckM_of (pc := 2290) (pn := 10) (ps := []) (by decide +kernel) rfl rfl j_Model_choose
set_option maxRecDepth 100000 in
theorem k_Model_firstOf : ai_okM ai_big ai_cl ai_own m_Model_firstOf := ai_ckM_of (pc := 2294) (pn := 10) (ps := []) (by decide +kernel) rfl rfl j_Model_firstOf
set_option maxRecDepth 100000 in
theorem k_Model_renewState : ai_okM ai_big ai_cl ai_own m_Model_renewState := ai_ckM_of (pc := 2298) (pn := 10) (ps := []) (by decide +kernel) rfl rfl j_Model_renewState
set_option maxRecDepth 100000 in
theorem k_Model_holds : ai_okM ai_big ai_cl ai_own m_Model_holds := ai_ckM_of (pc := 2302) (pn := 10) (ps := []) (by decide +kernel) rfl rfl j_Model_holds
set_option maxRecDepth 100000 in
theorem k_Model_leave : ai_okM ai_big ai_cl ai_own m_Model_leave := ai_ckM_of (pc := 2306) (pn := 10) (ps := []) (by decide +kernel) rfl rfl j_Model_leave
set_option maxRecDepth 100000 in
theorem k_Model_out : ai_okM ai_big ai_cl ai_own m_Model_out := ai_ckM_of (pc := 2310) (pn := 10) (ps := []) (by decide +kernel) rfl rfl j_Model_out
set_option maxRecDepth 100000 in
theorem k_Model_flow : ai_okM ai_big ai_cl ai_own m_Model_flow := ai_ckM_of (pc := 2314) (pn := 10) (ps := []) (by decide +kernel) rfl rfl j_Model_flow
set_option maxRecDepth 100000 in
theorem k_Model_state : ai_okM ai_big ai_cl ai_own m_Model_state := ai_ckM_of (pc := 2318) (pn := 10) (ps := []) (by decide +kernel) rfl rfl j_Model_state
set_option maxRecDepth 100000 in
theorem k_Model_ticks : ai_okM ai_big ai_cl ai_own m_Model_ticks := ai_ckM_of (pc := 2322) (pn := 10) (ps := []) (by decide +kernel) rfl rfl j_Model_ticks
set_option maxRecDepth 100000 in
theorem k_Model_save : ai_okM ai_big ai_cl ai_own m_Model_save := ai_ckM_of (pc := 2326) (pn := 10) (ps := []) (by decide +kernel) rfl rfl j_Model_save
set_option maxRecDepth 100000 in
theorem k_Model_back : ai_okM ai_big ai_cl ai_own m_Model_back := ai_ckM_of (pc := 2330) (pn := 10) (ps := []) (by decide +kernel) rfl rfl j_Model_back
set_option maxRecDepth 100000 in
theorem k_Model_prove : ai_okM ai_big ai_cl ai_own m_Model_prove := ai_ckM_of (pc := 2334) (pn := 10) (ps := []) (by decide +kernel) rfl rfl j_Model_prove
set_option maxRecDepth 100000 in
theorem k_Model_canBeFed : ai_okM ai_big ai_cl ai_own m_Model_canBeFed := ai_ckM_of (pc := 2338) (pn := 10) (ps := []) (by decide +kernel) rfl rfl j_Model_canBeFed
set_option maxRecDepth 100000 in
theorem k_Model_search : ai_okM ai_big ai_cl ai_own m_Model_search := ai_ckM_of (pc := 2342) (pn := 10) (ps := []) (by decide +kernel) rfl rfl j_Model_search
set_option maxRecDepth 100000 in
theorem k_Model_begin : ai_okM ai_big ai_cl ai_own m_Model_begin := ai_ckM_of (pc := 2346) (pn := 10) (ps := []) (by decide +kernel) rfl rfl j_Model_begin
set_option maxRecDepth 100000 in
theorem k_Model_keep : ai_okM ai_big ai_cl ai_own m_Model_keep := ai_ckM_of (pc := 2350) (pn := 10) (ps := []) (by decide +kernel) rfl rfl j_Model_keep
set_option maxRecDepth 100000 in
theorem k_Model_recall : ai_okM ai_big ai_cl ai_own m_Model_recall := ai_ckM_of (pc := 2354) (pn := 10) (ps := []) (by decide +kernel) rfl rfl j_Model_recall
set_option maxRecDepth 100000 in
theorem k_Model_isGood : ai_okM ai_big ai_cl ai_own m_Model_isGood := ai_ckM_of (pc := 2358) (pn := 10) (ps := []) (by decide +kernel) rfl rfl j_Model_isGood
set_option maxRecDepth 100000 in
theorem k_Model_feed : ai_okM ai_big ai_cl ai_own m_Model_feed := ai_ckM_of (pc := 2362) (pn := 10) (ps := []) (by decide +kernel) rfl rfl j_Model_feed
set_option maxRecDepth 100000 in
theorem k_Model_findWay : ai_okM ai_big ai_cl ai_own m_Model_findWay := ai_ckM_of (pc := 2366) (pn := 10) (ps := []) (by decide +kernel) rfl rfl j_Model_findWay
set_option maxRecDepth 100000 in
theorem k_Model_isSeen : ai_okM ai_big ai_cl ai_own m_Model_isSeen := ai_ckM_of (pc := 2370) (pn := 10) (ps := []) (by decide +kernel) rfl rfl j_Model_isSeen
set_option maxRecDepth 100000 in
theorem k_Model_alike : ai_okM ai_big ai_cl ai_own m_Model_alike := ai_ckM_of (pc := 2374) (pn := 10) (ps := []) (by decide +kernel) rfl rfl j_Model_alike
set_option maxRecDepth 100000 in
theorem k_Model_run : ai_okM ai_big ai_cl ai_own m_Model_run := ai_ckM_of (pc := 2378) (pn := 10) (ps := []) (by decide +kernel) rfl rfl j_Model_run
set_option maxRecDepth 100000 in
theorem k_Model_total : ai_okM ai_big ai_cl ai_own m_Model_total := ai_ckM_of (pc := 2382) (pn := 10) (ps := []) (by decide +kernel) rfl rfl j_Model_total
set_option maxRecDepth 100000 in
theorem k_Law_module : ai_okM ai_big ai_cl ai_own m_Law_module := ai_ckM_of (pc := 907) (pn := 0) (ps := [908]) (by decide +kernel) rfl rfl j_Law_module
set_option maxRecDepth 100000 in
theorem k_Reader_read : ai_okM ai_big ai_cl ai_own m_Reader_read := ai_ckM_of (pc := 993) (pn := 11) (ps := [994, 994]) (by decide +kernel) rfl rfl j_Reader_read
set_option maxRecDepth 100000 in
theorem k_Law_out : ai_okM ai_big ai_cl ai_own m_Law_out := ai_ckM_of (pc := 1468) (pn := 0) (ps := [1469]) (by decide +kernel) rfl rfl j_Law_out
