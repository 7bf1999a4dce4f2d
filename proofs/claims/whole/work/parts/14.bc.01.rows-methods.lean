set_option maxRecDepth 100000 in
theorem k_Prover_takeFirstRow : ai_okM ai_big ai_cl ai_own m_Prover_takeFirstRow := ai_ckM_of (pc := 858) (pn := 8) (ps := []) (by decide +kernel) rfl rfl j_Prover_takeFirstRow
set_option maxRecDepth 100000 in
theorem k_Prover_findSpot : ai_okM ai_big ai_cl ai_own m_Prover_findSpot := ai_ckM_of (pc := 863) (pn := 8) (ps := []) (by decide +kernel) rfl rfl j_Prover_findSpot
set_option maxRecDepth 100000 in
theorem k_Prover_isRow : ai_okM ai_big ai_cl ai_own m_Prover_isRow := ai_ckM_of (pc := 867) (pn := 8) (ps := []) (by decide +kernel) rfl rfl j_Prover_isRow
set_option maxRecDepth 100000 in
theorem k_Prover_keepRow : ai_okM ai_big ai_cl ai_own m_Prover_keepRow := ai_ckM_of (pc := 871) (pn := 8) (ps := []) (by decide +kernel) rfl rfl j_Prover_keepRow
set_option maxRecDepth 100000 in
theorem k_Prover_holds : ai_okM ai_big ai_cl ai_own m_Prover_holds := ai_ckM_of (pc := 875) (pn := 8) (ps := []) (by decide +kernel) rfl rfl j_Prover_holds
set_option maxRecDepth 100000 in
theorem k_Prover_takeOutputs : ai_okM ai_big ai_cl ai_own m_Prover_takeOutputs := ai_ckM_of (pc := 880) (pn := 8) (ps := []) (by decide +kernel) rfl rfl j_Prover_takeOutputs
set_option maxRecDepth 100000 in
theorem k_Prover_hasOutputs : ai_okM ai_big ai_cl ai_own m_Prover_hasOutputs := ai_ckM_of (pc := 884) (pn := 8) (ps := []) (by decide +kernel) rfl rfl j_Prover_hasOutputs
set_option maxRecDepth 100000 in
theorem k_Prover_tellPath : ai_okM ai_big ai_cl ai_own m_Prover_tellPath := ai_ckM_of (pc := 888) (pn := 8) (ps := []) (by decide +kernel) rfl rfl j_Prover_tellPath
set_option maxRecDepth 100000 in
theorem k_House_alike : ai_okM ai_big ai_cl ai_own m_House_alike := ai_ckM_of (pc := 892) (pn := 1) (ps := []) (by decide +kernel) rfl rfl j_House_alike
set_option maxRecDepth 100000 in
theorem k_House_haveSameOutputs : ai_okM ai_big ai_cl ai_own m_House_haveSameOutputs := ai_ckM_of (pc := 896) (pn := 1) (ps := []) (by decide +kernel) rfl rfl j_House_haveSameOutputs
set_option maxRecDepth 100000 in
theorem k_House_run : ai_okM ai_big ai_cl ai_own m_House_run := ai_ckM_of (pc := 900) (pn := 1) (ps := []) (by decide +kernel) rfl rfl j_House_run
set_option maxRecDepth 100000 in
theorem k_House_total : ai_okM ai_big ai_cl ai_own m_House_total := ai_ckM_of (pc := 904) (pn := 1) (ps := []) (by decide +kernel) rfl rfl j_House_total
set_option maxRecDepth 100000 in
theorem k_House_module : ai_okM ai_big ai_cl ai_own m_House_module := ai_ckM_of (pc := 912) (pn := 1) (ps := []) (by decide +kernel) rfl rfl j_House_module
set_option maxRecDepth 100000 in
theorem k_Reader_init : ai_okM ai_big ai_cl ai_own m_Reader_init := ai_ckM_of (pc := 917) (pn := 11) (ps := []) (by decide +kernel) rfl rfl j_Reader_init
set_option maxRecDepth 100000 in
theorem k_Judge_init : ai_okM ai_big ai_cl ai_own m_Judge_init := ai_ckM_of (pc := 968) (pn := 12) (ps := []) (by decide +kernel) rfl rfl j_Judge_init
set_option maxRecDepth 100000 in
theorem k_Program_clear : ai_okM ai_big ai_cl ai_own m_Program_clear := ai_ckM_of (pc := 998) (pn := 2) (ps := []) (by decide +kernel) rfl rfl j_Program_clear
set_option maxRecDepth 100000 in
theorem k_Letters_clear : ai_okM ai_big ai_cl ai_own m_Letters_clear := ai_ckM_of (pc := 1003) (pn := 4) (ps := []) (by decide +kernel) rfl rfl j_Letters_clear
set_option maxRecDepth 100000 in
theorem k_Reader_readHead : ai_okM ai_big ai_cl ai_own m_Reader_readHead := ai_ckM_of (pc := 1008) (pn := 11) (ps := []) (by decide +kernel) rfl rfl j_Reader_readHead
set_option maxRecDepth 100000 in
theorem k_Reader_look : ai_okM ai_big ai_cl ai_own m_Reader_look := ai_ckM_of (pc := 1012) (pn := 11) (ps := []) (by decide +kernel) rfl rfl j_Reader_look
set_option maxRecDepth 100000 in
theorem k_Reader_isName : ai_okM ai_big ai_cl ai_own m_Reader_isName := ai_ckM_of (pc := 1015) (pn := 11) (ps := []) (by decide +kernel) rfl rfl j_Reader_isName
set_option maxRecDepth 100000 in
theorem k_Reader_refuse : ai_okM ai_big ai_cl ai_own m_Reader_refuse := ai_ckM_of (pc := 1019) (pn := 11) (ps := []) (by decide +kernel) rfl rfl j_Reader_refuse
set_option maxRecDepth 100000 in
theorem k_Reader_expect : ai_okM ai_big ai_cl ai_own m_Reader_expect := ai_ckM_of (pc := 1089) (pn := 11) (ps := []) (by decide +kernel) rfl rfl j_Reader_expect
set_option maxRecDepth 100000 in
theorem k_Reader_readFlows : ai_okM ai_big ai_cl ai_own m_Reader_readFlows := ai_ckM_of (pc := 1093) (pn := 11) (ps := []) (by decide +kernel) rfl rfl j_Reader_readFlows
set_option maxRecDepth 100000 in
theorem k_Reader_readFlow : ai_okM ai_big ai_cl ai_own m_Reader_readFlow := ai_ckM_of (pc := 1097) (pn := 11) (ps := []) (by decide +kernel) rfl rfl j_Reader_readFlow
set_option maxRecDepth 100000 in
theorem k_Reader_takeLetter : ai_okM ai_big ai_cl ai_own m_Reader_takeLetter := ai_ckM_of (pc := 1101) (pn := 11) (ps := []) (by decide +kernel) rfl rfl j_Reader_takeLetter
set_option maxRecDepth 100000 in
theorem k_Reader_isLetter : ai_okM ai_big ai_cl ai_own m_Reader_isLetter := ai_ckM_of (pc := 1104) (pn := 11) (ps := []) (by decide +kernel) rfl rfl j_Reader_isLetter
set_option maxRecDepth 100000 in
theorem k_Letters_tell : ai_okM ai_big ai_cl ai_own m_Letters_tell := ai_ckM_of (pc := 1108) (pn := 4) (ps := []) (by decide +kernel) rfl rfl j_Letters_tell
set_option maxRecDepth 100000 in
theorem k_Program_tellFlow : ai_okM ai_big ai_cl ai_own m_Program_tellFlow := ai_ckM_of (pc := 1112) (pn := 2) (ps := []) (by decide +kernel) rfl rfl j_Program_tellFlow
set_option maxRecDepth 100000 in
theorem k_Reader_takeClock : ai_okM ai_big ai_cl ai_own m_Reader_takeClock := ai_ckM_of (pc := 1117) (pn := 11) (ps := []) (by decide +kernel) rfl rfl j_Reader_takeClock
set_option maxRecDepth 100000 in
theorem k_Letters_tellClock : ai_okM ai_big ai_cl ai_own m_Letters_tellClock := ai_ckM_of (pc := 1121) (pn := 4) (ps := []) (by decide +kernel) rfl rfl j_Letters_tellClock
set_option maxRecDepth 100000 in
theorem k_Reader_takeNumber : ai_okM ai_big ai_cl ai_own m_Reader_takeNumber := ai_ckM_of (pc := 1125) (pn := 11) (ps := []) (by decide +kernel) rfl rfl j_Reader_takeNumber
set_option maxRecDepth 100000 in
theorem k_Reader_isDigit : ai_okM ai_big ai_cl ai_own m_Reader_isDigit := ai_ckM_of (pc := 1128) (pn := 11) (ps := []) (by decide +kernel) rfl rfl j_Reader_isDigit
set_option maxRecDepth 100000 in
theorem k_Letters_tellLast : ai_okM ai_big ai_cl ai_own m_Letters_tellLast := ai_ckM_of (pc := 1132) (pn := 4) (ps := []) (by decide +kernel) rfl rfl j_Letters_tellLast
set_option maxRecDepth 100000 in
theorem k_Reader_readAutomaton : ai_okM ai_big ai_cl ai_own m_Reader_readAutomaton := ai_ckM_of (pc := 1136) (pn := 11) (ps := []) (by decide +kernel) rfl rfl j_Reader_readAutomaton
set_option maxRecDepth 100000 in
theorem k_Automata_add : ai_okM ai_big ai_cl ai_own m_Automata_add := ai_ckM_of (pc := 1140) (pn := 6) (ps := []) (by decide +kernel) rfl rfl j_Automata_add
set_option maxRecDepth 100000 in
theorem k_Automata_addState : ai_okM ai_big ai_cl ai_own m_Automata_addState := ai_ckM_of (pc := 1144) (pn := 6) (ps := []) (by decide +kernel) rfl rfl j_Automata_addState
set_option maxRecDepth 100000 in
theorem k_Reader_readEquation : ai_okM ai_big ai_cl ai_own m_Reader_readEquation := ai_ckM_of (pc := 1148) (pn := 11) (ps := []) (by decide +kernel) rfl rfl j_Reader_readEquation
set_option maxRecDepth 100000 in
theorem k_Equations_add : ai_okM ai_big ai_cl ai_own m_Equations_add := ai_ckM_of (pc := 1152) (pn := 5) (ps := []) (by decide +kernel) rfl rfl j_Equations_add
set_option maxRecDepth 100000 in
theorem k_Equations_addHead : ai_okM ai_big ai_cl ai_own m_Equations_addHead := ai_ckM_of (pc := 1156) (pn := 5) (ps := []) (by decide +kernel) rfl rfl j_Equations_addHead
set_option maxRecDepth 100000 in
theorem k_Reader_readX : ai_okM ai_big ai_cl ai_own m_Reader_readX := ai_ckM_of (pc := 1160) (pn := 11) (ps := []) (by decide +kernel) rfl rfl j_Reader_readX
set_option maxRecDepth 100000 in
theorem k_Reader_readC : ai_okM ai_big ai_cl ai_own m_Reader_readC := ai_ckM_of (pc := 1164) (pn := 11) (ps := []) (by decide +kernel) rfl rfl j_Reader_readC
set_option maxRecDepth 100000 in
theorem k_Reader_readRanked : ai_okM ai_big ai_cl ai_own m_Reader_readRanked := ai_ckM_of (pc := 1168) (pn := 11) (ps := []) (by decide +kernel) rfl rfl j_Reader_readRanked
set_option maxRecDepth 100000 in
theorem k_Reader_readK : ai_okM ai_big ai_cl ai_own m_Reader_readK := ai_ckM_of (pc := 1172) (pn := 11) (ps := []) (by decide +kernel) rfl rfl j_Reader_readK
set_option maxRecDepth 100000 in
theorem k_Reader_addPart : ai_okM ai_big ai_cl ai_own m_Reader_addPart := ai_ckM_of (pc := 1176) (pn := 11) (ps := []) (by decide +kernel) rfl rfl j_Reader_addPart
set_option maxRecDepth 100000 in
theorem k_Parts_add : ai_okM ai_big ai_cl ai_own m_Parts_add := ai_ckM_of (pc := 1180) (pn := 3) (ps := []) (by decide +kernel) rfl rfl j_Parts_add
set_option maxRecDepth 100000 in
theorem k_Reader_readCall : ai_okM ai_big ai_cl ai_own m_Reader_readCall := ai_ckM_of (pc := 1184) (pn := 11) (ps := []) (by decide +kernel) rfl rfl j_Reader_readCall
set_option maxRecDepth 100000 in
theorem k_Program_find : ai_okM ai_big ai_cl ai_own m_Program_find := ai_ckM_of (pc := 1188) (pn := 2) (ps := []) (by decide +kernel) rfl rfl j_Program_find
set_option maxRecDepth 100000 in
theorem k_Reader_deepen : ai_okM ai_big ai_cl ai_own m_Reader_deepen := ai_ckM_of (pc := 1192) (pn := 11) (ps := []) (by decide +kernel) rfl rfl j_Reader_deepen
