/-! THE LAW UP TO ITS LOOP -/
theorem zH_len : zH.length = 222 := by decide +kernel
/-- the world behind new TickHouseModel() -/
def zM : List va_E := ai_world (ai_exec ai_P0 1000 3 q_Model_init [.ref 222] (zH ++ [.inr (12, ai_df 12)]))
theorem zM_ex : ai_Ex ai_P0 3 q_Model_init [.ref 222] (zH ++ [.inr (12, ai_df 12)]) (none, zM) := ai_Ex.run (ai_isV_of (by decide +kernel))
theorem zM_len : zM.length = 314 := by decide +kernel
