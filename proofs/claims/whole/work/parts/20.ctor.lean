/-! CONSTRUCTORS: run by the kernel -/
def ai_isV (o : Option ai_R) : Bool := match o with
  | some (none, _) => true
  | _ => false
def ai_world (o : Option ai_R) : List va_E := match o with
  | some (_, z) => z
  | none => []
theorem ai_isV_of {o : Option ai_R} (h : ai_isV o = true) : o = some (none, ai_world o) := by
  unfold ai_isV at h
  split at h
  · rfl
  · cases h
/-- the world behind new TickHouse() -/
def zH : List va_E := ai_world (ai_exec ai_P0 400 4 q_House_init [.ref 0] [.inr (11, ai_df 11)])
theorem zH_ex : ai_Ex ai_P0 4 q_House_init [.ref 0] [.inr (11, ai_df 11)] (none, zH) := ai_Ex.run (ai_isV_of (by decide +kernel))
theorem zH_len : zH.length = 222 := by decide +kernel
/-- the world behind new TickHouseModel() -/
def zM : List va_E := ai_world (ai_exec ai_P0 1000 3 q_Model_init [.ref 222] (zH ++ [.inr (12, ai_df 12)]))
theorem zM_ex : ai_Ex ai_P0 3 q_Model_init [.ref 222] (zH ++ [.inr (12, ai_df 12)]) (none, zM) := ai_Ex.run (ai_isV_of (by decide +kernel))
theorem zM_len : zM.length = 314 := by decide +kernel
/-- the array of instances -/
def y_fm (o : Option va_E) : Nat → Option Nat := match o with
  | some (Sum.inl (_, _, Sum.inr (Sum.inr (Sum.inr (Sum.inr f))))) => f
  | _ => fun _ => none
def y_fk (o : Option va_E) : Bool := match o with
  | some (Sum.inl (t, n, Sum.inr (Sum.inr (Sum.inr (Sum.inr _))))) => t == 4 && n == 8
  | _ => false
theorem y_fk_of {o : Option va_E} (h : y_fk o = true) : o = some (Sum.inl (4, 8, Sum.inr (Sum.inr (Sum.inr (Sum.inr (y_fm o)))))) := by
  unfold y_fk at h
  split at h
  · next t n f =>
    simp only [Bool.and_eq_true, beq_iff_eq] at h
    rw [h.1, h.2]
    rfl
  · cases h
def y_f0 : Nat → Option Nat := y_fm (zM[156]?)
theorem y_f0_c : zM[156]? = some (Sum.inl (4, 8, Sum.inr (Sum.inr (Sum.inr (Sum.inr y_f0))))) := y_fk_of (by decide +kernel)
theorem y_f0_lo : ∀ j : Fin 8, y_f0 j.val = some (166 + 7 * j.val) := by decide +kernel
theorem y_f0_j {j : Nat} (h : j < 8) : y_f0 j = some (166 + 7 * j) := y_f0_lo ⟨j, h⟩
