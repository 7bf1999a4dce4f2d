set_option maxRecDepth 100000 in
theorem k_Law_flow : ai_okM ai_big ai_cl ai_own m_Law_flow := ai_ckM_of (pc := 1492) (pn := 0) (ps := [1469]) (by decide +kernel) rfl rfl j_Law_flow
