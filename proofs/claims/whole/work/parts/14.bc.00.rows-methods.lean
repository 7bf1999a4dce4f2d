set_option maxRecDepth 100000 in
theorem k_House_init : ai_okM ai_big ai_cl ai_own m_House_init := ai_ckM_of (pc := 26) (pn := 1) (ps := []) (by decide +kernel) rfl rfl j_House_init
set_option maxRecDepth 100000 in
theorem k_Program_init : ai_okM ai_big ai_cl ai_own m_Program_init := ai_ckM_of (pc := 34) (pn := 2) (ps := []) (by decide +kernel) rfl rfl j_Program_init
set_option maxRecDepth 100000 in
theorem k_Parts_init : ai_okM ai_big ai_cl ai_own m_Parts_init := ai_ckM_of (pc := 40) (pn := 3) (ps := []) (by decide +kernel) rfl rfl j_Parts_init
set_option maxRecDepth 100000 in
theorem k_Letters_init : ai_okM ai_big ai_cl ai_own m_Letters_init := ai_ckM_of (pc := 139) (pn := 4) (ps := []) (by decide +kernel) rfl rfl j_Letters_init
set_option maxRecDepth 100000 in
theorem k_Equations_init : ai_okM ai_big ai_cl ai_own m_Equations_init := ai_ckM_of (pc := 209) (pn := 5) (ps := []) (by decide +kernel) rfl rfl j_Equations_init
set_option maxRecDepth 100000 in
theorem k_Automata_init : ai_okM ai_big ai_cl ai_own m_Automata_init := ai_ckM_of (pc := 270) (pn := 6) (ps := []) (by decide +kernel) rfl rfl j_Automata_init
set_option maxRecDepth 100000 in
theorem k_Machine_init : ai_okM ai_big ai_cl ai_own m_Machine_init := ai_ckM_of (pc := 506) (pn := 7) (ps := []) (by decide +kernel) rfl rfl j_Machine_init
set_option maxRecDepth 100000 in
theorem k_Prover_init : ai_okM ai_big ai_cl ai_own m_Prover_init := ai_ckM_of (pc := 556) (pn := 8) (ps := []) (by decide +kernel) rfl rfl j_Prover_init
set_option maxRecDepth 100000 in
theorem k_Instance_init : ai_okM ai_big ai_cl ai_own m_Instance_init := ai_ckM_of (pc := 620) (pn := 9) (ps := []) (by decide +kernel) rfl rfl j_Instance_init
set_option maxRecDepth 100000 in
theorem k_House_type : ai_okM ai_big ai_cl ai_own m_House_type := ai_ckM_of (pc := 691) (pn := 1) (ps := []) (by decide +kernel) rfl rfl j_House_type
set_option maxRecDepth 100000 in
theorem k_House_byteOf : ai_okM ai_big ai_cl ai_own m_House_byteOf := ai_ckM_of (pc := 694) (pn := 1) (ps := []) (by decide +kernel) rfl rfl j_House_byteOf
set_option maxRecDepth 100000 in
theorem k_House_fault : ai_okM ai_big ai_cl ai_own m_House_fault := ai_ckM_of (pc := 698) (pn := 1) (ps := []) (by decide +kernel) rfl rfl j_House_fault
set_option maxRecDepth 100000 in
theorem k_House_node : ai_okM ai_big ai_cl ai_own m_House_node := ai_ckM_of (pc := 702) (pn := 1) (ps := []) (by decide +kernel) rfl rfl j_House_node
set_option maxRecDepth 100000 in
theorem k_Program_has : ai_okM ai_big ai_cl ai_own m_Program_has := ai_ckM_of (pc := 706) (pn := 2) (ps := []) (by decide +kernel) rfl rfl j_Program_has
set_option maxRecDepth 100000 in
theorem k_House_make : ai_okM ai_big ai_cl ai_own m_House_make := ai_ckM_of (pc := 710) (pn := 1) (ps := []) (by decide +kernel) rfl rfl j_House_make
set_option maxRecDepth 100000 in
theorem k_Program_canMake : ai_okM ai_big ai_cl ai_own m_Program_canMake := ai_ckM_of (pc := 714) (pn := 2) (ps := []) (by decide +kernel) rfl rfl j_Program_canMake
set_option maxRecDepth 100000 in
theorem k_Instance_begin : ai_okM ai_big ai_cl ai_own m_Instance_begin := ai_ckM_of (pc := 719) (pn := 9) (ps := []) (by decide +kernel) rfl rfl j_Instance_begin
set_option maxRecDepth 100000 in
theorem k_Arrays_fill : ai_okM ai_big ai_cl ai_own m_Arrays_fill := ai_ckM_of (pc := 722) (pn := 13) (ps := []) (by decide +kernel) rfl rfl j_Arrays_fill
set_option maxRecDepth 100000 in
theorem k_House_put : ai_okM ai_big ai_cl ai_own m_House_put := ai_ckM_of (pc := 729) (pn := 1) (ps := []) (by decide +kernel) rfl rfl j_House_put
set_option maxRecDepth 100000 in
theorem k_House_isMade : ai_okM ai_big ai_cl ai_own m_House_isMade := ai_ckM_of (pc := 733) (pn := 1) (ps := []) (by decide +kernel) rfl rfl j_House_isMade
set_option maxRecDepth 100000 in
theorem k_House_tick : ai_okM ai_big ai_cl ai_own m_House_tick := ai_ckM_of (pc := 737) (pn := 1) (ps := []) (by decide +kernel) rfl rfl j_House_tick
set_option maxRecDepth 100000 in
theorem k_Machine_goes : ai_okM ai_big ai_cl ai_own m_Machine_goes := ai_ckM_of (pc := 741) (pn := 7) (ps := []) (by decide +kernel) rfl rfl j_Machine_goes
set_option maxRecDepth 100000 in
theorem k_Machine_feedOne : ai_okM ai_big ai_cl ai_own m_Machine_feedOne := ai_ckM_of (pc := 746) (pn := 7) (ps := []) (by decide +kernel) rfl rfl j_Machine_feedOne
set_option maxRecDepth 100000 in
theorem k_Machine_go : ai_okM ai_big ai_cl ai_own m_Machine_go := ai_ckM_of (pc := 750) (pn := 7) (ps := []) (by decide +kernel) rfl rfl j_Machine_go
set_option maxRecDepth 100000 in
theorem k_Machine_isOn : ai_okM ai_big ai_cl ai_own m_Machine_isOn := ai_ckM_of (pc := 754) (pn := 7) (ps := []) (by decide +kernel) rfl rfl j_Machine_isOn
set_option maxRecDepth 100000 in
theorem k_Machine_isPresent : ai_okM ai_big ai_cl ai_own m_Machine_isPresent := ai_ckM_of (pc := 758) (pn := 7) (ps := []) (by decide +kernel) rfl rfl j_Machine_isPresent
set_option maxRecDepth 100000 in
theorem k_Machine_worth : ai_okM ai_big ai_cl ai_own m_Machine_worth := ai_ckM_of (pc := 762) (pn := 7) (ps := []) (by decide +kernel) rfl rfl j_Machine_worth
set_option maxRecDepth 100000 in
theorem k_Machine_firstThenLater : ai_okM ai_big ai_cl ai_own m_Machine_firstThenLater := ai_ckM_of (pc := 766) (pn := 7) (ps := []) (by decide +kernel) rfl rfl j_Machine_firstThenLater
set_option maxRecDepth 100000 in
theorem k_Machine_call : ai_okM ai_big ai_cl ai_own m_Machine_call := ai_ckM_of (pc := 770) (pn := 7) (ps := []) (by decide +kernel) rfl rfl j_Machine_call
set_option maxRecDepth 100000 in
theorem k_Machine_renew : ai_okM ai_big ai_cl ai_own m_Machine_renew := ai_ckM_of (pc := 774) (pn := 7) (ps := []) (by decide +kernel) rfl rfl j_Machine_renew
set_option maxRecDepth 100000 in
theorem k_Machine_divide : ai_okM ai_big ai_cl ai_own m_Machine_divide := ai_ckM_of (pc := 778) (pn := 7) (ps := []) (by decide +kernel) rfl rfl j_Machine_divide
set_option maxRecDepth 100000 in
theorem k_Machine_rest : ai_okM ai_big ai_cl ai_own m_Machine_rest := ai_ckM_of (pc := 785) (pn := 7) (ps := []) (by decide +kernel) rfl rfl j_Machine_rest
set_option maxRecDepth 100000 in
theorem k_Machine_reckon : ai_okM ai_big ai_cl ai_own m_Machine_reckon := ai_ckM_of (pc := 788) (pn := 7) (ps := []) (by decide +kernel) rfl rfl j_Machine_reckon
set_option maxRecDepth 100000 in
theorem k_Machine_assign : ai_okM ai_big ai_cl ai_own m_Machine_assign := ai_ckM_of (pc := 792) (pn := 7) (ps := []) (by decide +kernel) rfl rfl j_Machine_assign
set_option maxRecDepth 100000 in
theorem k_Parts_isCall : ai_okM ai_big ai_cl ai_own m_Parts_isCall := ai_ckM_of (pc := 796) (pn := 3) (ps := []) (by decide +kernel) rfl rfl j_Parts_isCall
set_option maxRecDepth 100000 in
theorem k_Machine_goOver : ai_okM ai_big ai_cl ai_own m_Machine_goOver := ai_ckM_of (pc := 800) (pn := 7) (ps := []) (by decide +kernel) rfl rfl j_Machine_goOver
set_option maxRecDepth 100000 in
theorem k_Machine_firstMove : ai_okM ai_big ai_cl ai_own m_Machine_firstMove := ai_ckM_of (pc := 804) (pn := 7) (ps := []) (by decide +kernel) rfl rfl j_Machine_firstMove
set_option maxRecDepth 100000 in
theorem k_Instance_takeOver : ai_okM ai_big ai_cl ai_own m_Instance_takeOver := ai_ckM_of (pc := 808) (pn := 9) (ps := []) (by decide +kernel) rfl rfl j_Instance_takeOver
set_option maxRecDepth 100000 in
theorem k_House_state : ai_okM ai_big ai_cl ai_own m_House_state := ai_ckM_of (pc := 812) (pn := 1) (ps := []) (by decide +kernel) rfl rfl j_House_state
set_option maxRecDepth 100000 in
theorem k_House_ticks : ai_okM ai_big ai_cl ai_own m_House_ticks := ai_ckM_of (pc := 816) (pn := 1) (ps := []) (by decide +kernel) rfl rfl j_House_ticks
set_option maxRecDepth 100000 in
theorem k_House_save : ai_okM ai_big ai_cl ai_own m_House_save := ai_ckM_of (pc := 820) (pn := 1) (ps := []) (by decide +kernel) rfl rfl j_House_save
set_option maxRecDepth 100000 in
theorem k_Instance_keep : ai_okM ai_big ai_cl ai_own m_Instance_keep := ai_ckM_of (pc := 824) (pn := 9) (ps := []) (by decide +kernel) rfl rfl j_Instance_keep
set_option maxRecDepth 100000 in
theorem k_House_back : ai_okM ai_big ai_cl ai_own m_House_back := ai_ckM_of (pc := 828) (pn := 1) (ps := []) (by decide +kernel) rfl rfl j_House_back
set_option maxRecDepth 100000 in
theorem k_Instance_bringBack : ai_okM ai_big ai_cl ai_own m_Instance_bringBack := ai_ckM_of (pc := 832) (pn := 9) (ps := []) (by decide +kernel) rfl rfl j_Instance_bringBack
set_option maxRecDepth 100000 in
theorem k_House_prove : ai_okM ai_big ai_cl ai_own m_House_prove := ai_ckM_of (pc := 836) (pn := 1) (ps := []) (by decide +kernel) rfl rfl j_House_prove
set_option maxRecDepth 100000 in
theorem k_House_canProve : ai_okM ai_big ai_cl ai_own m_House_canProve := ai_ckM_of (pc := 840) (pn := 1) (ps := []) (by decide +kernel) rfl rfl j_House_canProve
set_option maxRecDepth 100000 in
theorem k_Prover_begin : ai_okM ai_big ai_cl ai_own m_Prover_begin := ai_ckM_of (pc := 844) (pn := 8) (ps := []) (by decide +kernel) rfl rfl j_Prover_begin
set_option maxRecDepth 100000 in
theorem k_Prover_search : ai_okM ai_big ai_cl ai_own m_Prover_search := ai_ckM_of (pc := 854) (pn := 8) (ps := []) (by decide +kernel) rfl rfl j_Prover_search
