/-! CONSTRUCTORS: run by the kernel -/
def ai_isV (o : Option ai_R) : Bool := match o with
  | some (none, _) => true
  | _ => false
def ai_world (o : Option ai_R) : List va_E := match o with
  | some (_, z) => z
  | none => []
theorem ai_isV_of {o : Option ai_R} (h : ai_isV o = true) : o = some (none, ai_world o) := by
  unfold ai_isV at h
  split at h
  · rfl
  · cases h
/-- the world behind new TickHouse() -/
def zH : List va_E := ai_world (ai_exec ai_P0 400 4 q_House_init [.ref 0] [.inr (11, ai_df 11)])
theorem zH_ex : ai_Ex ai_P0 4 q_House_init [.ref 0] [.inr (11, ai_df 11)] (none, zH) := ai_Ex.run (ai_isV_of (by decide +kernel))
