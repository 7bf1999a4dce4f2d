/-! THE LAW'S HELPERS run -/
theorem l_lst {pc : Nat} {x : Int64} {f : Nat → Int64} {z : List va_E} (hb : z[314]? = some (y_bx f)) : ai_last pc [.long x, ax_i 0, .ref 314] z = some (pc + 1, [], z.set 314 (y_bx (vp_updL f 0 x))) := by
  have hb' : z[314]? = some (.inl (3, 1, .inr (.inl f))) := hb
  show ai_last pc [.long x, .int (Int32.ofInt 0), .ref 314] z = _
  unfold ai_last
  simp only [hb']
  rw [if_pos ⟨trivial, by decide⟩]
  rfl
/-- Law.module, where the house answers -/
theorem l_module_ok {D : Nat} {z z1 : List va_E} {fs : List Value} {r : Int} {f : Nat → Int64} (h0 : z[0]? = some (.inr (11, fs))) (hc : ai_Ex ai_P0 D q_House_module [.ref 0] z (some (ax_i r), z1)) (hb : z1[314]? = some (y_bx f)) : ai_Ex ai_P0 (D + 1) q_Law_module [.ref 0, .ref 314] z (some (ax_i 0), z1.set 314 (y_bx (vp_updL f 0 (Int32.ofInt r).toInt64))) := by
  refine ai_Ex.of (M := m_Law_module) rfl (Nat.le_of_ble_eq_true rfl) ?_
  refine ai_mv_Rn 3 (0, [some (.ref 0), some (.ref 314), none], []) (3, [some (.ref 0), some (.ref 314), none], [.ref 0, ax_i 0, .ref 314]) rfl ?_
  refine ai_Rn.callv (v := some (ax_i r)) (rest := [ax_i 0, .ref 314]) ⟨_, rfl⟩ lk_15_7 rfl h0 (Nat.le_of_ble_eq_true rfl) (ai_nt_i _) hc ?_
  refine ai_mv_Rn 1 (6, [some (.ref 0), some (.ref 314), none], [ax_i r, ax_i 0, .ref 314]) (7, [some (.ref 0), some (.ref 314), none], [.long (Int32.ofInt r).toInt64, ax_i 0, .ref 314]) rfl ?_
  refine ai_Rn.world (pc' := 8) (st' := []) ⟨_, rfl⟩ rfl (l_lst hb) ?_
  refine ai_mv_Rn 2 (8, [some (.ref 0), some (.ref 314), none], []) (15, [some (.ref 0), some (.ref 314), none], [ax_i 0]) rfl ?_
  exact ai_Rn.iret ⟨_, rfl⟩ rfl rfl
/-- Law.module, where the house throws -/
theorem l_module_no {D a : Nat} {z z1 : List va_E} {fs fs' : List Value} (h0 : z[0]? = some (.inr (11, fs))) (hc : ai_Ex ai_P0 D q_House_module [.ref 0] z (some (.retAddr a), z1)) (he : z1[a]? = some (.inr (13, fs'))) : ai_Ex ai_P0 (D + 1) q_Law_module [.ref 0, .ref 314] z (some (ax_i 1), z1) := by
  refine ai_Ex.of (M := m_Law_module) rfl (Nat.le_of_ble_eq_true rfl) ?_
  refine ai_mv_Rn 3 (0, [some (.ref 0), some (.ref 314), none], []) (3, [some (.ref 0), some (.ref 314), none], [.ref 0, ax_i 0, .ref 314]) rfl ?_
  refine ai_Rn.callC (rest := [ax_i 0, .ref 314]) ⟨_, rfl⟩ lk_15_7 rfl h0 (Nat.le_of_ble_eq_true rfl) rfl he hc ?_
  refine ai_mv_Rn 2 (11, [some (.ref 0), some (.ref 314), none], [.ref a]) (13, [some (.ref 0), some (.ref 314), some (.ref a)], [ax_i 1]) rfl ?_
  exact ai_Rn.iret ⟨_, rfl⟩ rfl rfl
/-- Law.out, where the house answers -/
theorem l_out_ok {D : Nat} {z z1 : List va_E} {fs : List Value} {r : Int} {x : Int} {i : Int} {f : Nat → Int64} (h0 : z[0]? = some (.inr (11, fs))) (hc : ai_Ex ai_P0 D q_House_out [.ref 0, ax_i x, ax_i i] z (some (ax_i r), z1)) (hb : z1[314]? = some (y_bx f)) : ai_Ex ai_P0 (D + 1) q_Law_out [.ref 0, ax_i x, ax_i i, .ref 314] z (some (ax_i 0), z1.set 314 (y_bx (vp_updL f 0 (Int32.ofInt r).toInt64))) := by
  refine ai_Ex.of (M := m_Law_out) rfl (Nat.le_of_ble_eq_true rfl) ?_
  refine ai_mv_Rn 5 (0, [some (.ref 0), some (ax_i x), some (ax_i i), some (.ref 314), none], []) (5, [some (.ref 0), some (ax_i x), some (ax_i i), some (.ref 314), none], [ax_i i, ax_i x, .ref 0, ax_i 0, .ref 314]) rfl ?_
  refine ai_Rn.callv (v := some (ax_i r)) (rest := [ax_i 0, .ref 314]) ⟨_, rfl⟩ lk_15_15 rfl h0 (Nat.le_of_ble_eq_true rfl) (ai_nt_i _) hc ?_
  refine ai_mv_Rn 1 (8, [some (.ref 0), some (ax_i x), some (ax_i i), some (.ref 314), none], [ax_i r, ax_i 0, .ref 314]) (9, [some (.ref 0), some (ax_i x), some (ax_i i), some (.ref 314), none], [.long (Int32.ofInt r).toInt64, ax_i 0, .ref 314]) rfl ?_
  refine ai_Rn.world (pc' := 10) (st' := []) ⟨_, rfl⟩ rfl (l_lst hb) ?_
  refine ai_mv_Rn 2 (10, [some (.ref 0), some (ax_i x), some (ax_i i), some (.ref 314), none], []) (18, [some (.ref 0), some (ax_i x), some (ax_i i), some (.ref 314), none], [ax_i 0]) rfl ?_
  exact ai_Rn.iret ⟨_, rfl⟩ rfl rfl
/-- Law.out, where the house throws -/
theorem l_out_no {D a : Nat} {z z1 : List va_E} {fs fs' : List Value} {x : Int} {i : Int} (h0 : z[0]? = some (.inr (11, fs))) (hc : ai_Ex ai_P0 D q_House_out [.ref 0, ax_i x, ax_i i] z (some (.retAddr a), z1)) (he : z1[a]? = some (.inr (14, fs'))) : ai_Ex ai_P0 (D + 1) q_Law_out [.ref 0, ax_i x, ax_i i, .ref 314] z (some (ax_i 1), z1) := by
  refine ai_Ex.of (M := m_Law_out) rfl (Nat.le_of_ble_eq_true rfl) ?_
  refine ai_mv_Rn 5 (0, [some (.ref 0), some (ax_i x), some (ax_i i), some (.ref 314), none], []) (5, [some (.ref 0), some (ax_i x), some (ax_i i), some (.ref 314), none], [ax_i i, ax_i x, .ref 0, ax_i 0, .ref 314]) rfl ?_
  refine ai_Rn.callC (rest := [ax_i 0, .ref 314]) ⟨_, rfl⟩ lk_15_15 rfl h0 (Nat.le_of_ble_eq_true rfl) rfl he hc ?_
  refine ai_mv_Rn 2 (13, [some (.ref 0), some (ax_i x), some (ax_i i), some (.ref 314), none], [.ref a]) (16, [some (.ref 0), some (ax_i x), some (ax_i i), some (.ref 314), some (.ref a)], [ax_i 1]) rfl ?_
  exact ai_Rn.iret ⟨_, rfl⟩ rfl rfl
/-- Law.flow, where the house answers -/
theorem l_flow_ok {D : Nat} {z z1 : List va_E} {fs : List Value} {r : Int} {x : Int} {i : Int} {f : Nat → Int64} (h0 : z[0]? = some (.inr (11, fs))) (hc : ai_Ex ai_P0 D q_House_flow [.ref 0, ax_i x, ax_i i] z (some (ax_i r), z1)) (hb : z1[314]? = some (y_bx f)) : ai_Ex ai_P0 (D + 1) q_Law_flow [.ref 0, ax_i x, ax_i i, .ref 314] z (some (ax_i 0), z1.set 314 (y_bx (vp_updL f 0 (Int32.ofInt r).toInt64))) := by
  refine ai_Ex.of (M := m_Law_flow) rfl (Nat.le_of_ble_eq_true rfl) ?_
  refine ai_mv_Rn 5 (0, [some (.ref 0), some (ax_i x), some (ax_i i), some (.ref 314), none], []) (5, [some (.ref 0), some (ax_i x), some (ax_i i), some (.ref 314), none], [ax_i i, ax_i x, .ref 0, ax_i 0, .ref 314]) rfl ?_
  refine ai_Rn.callv (v := some (ax_i r)) (rest := [ax_i 0, .ref 314]) ⟨_, rfl⟩ lk_15_21 rfl h0 (Nat.le_of_ble_eq_true rfl) (ai_nt_i _) hc ?_
  refine ai_mv_Rn 1 (8, [some (.ref 0), some (ax_i x), some (ax_i i), some (.ref 314), none], [ax_i r, ax_i 0, .ref 314]) (9, [some (.ref 0), some (ax_i x), some (ax_i i), some (.ref 314), none], [.long (Int32.ofInt r).toInt64, ax_i 0, .ref 314]) rfl ?_
  refine ai_Rn.world (pc' := 10) (st' := []) ⟨_, rfl⟩ rfl (l_lst hb) ?_
  refine ai_mv_Rn 2 (10, [some (.ref 0), some (ax_i x), some (ax_i i), some (.ref 314), none], []) (18, [some (.ref 0), some (ax_i x), some (ax_i i), some (.ref 314), none], [ax_i 0]) rfl ?_
  exact ai_Rn.iret ⟨_, rfl⟩ rfl rfl
/-- Law.flow, where the house throws -/
theorem l_flow_no {D a : Nat} {z z1 : List va_E} {fs fs' : List Value} {x : Int} {i : Int} (h0 : z[0]? = some (.inr (11, fs))) (hc : ai_Ex ai_P0 D q_House_flow [.ref 0, ax_i x, ax_i i] z (some (.retAddr a), z1)) (he : z1[a]? = some (.inr (14, fs'))) : ai_Ex ai_P0 (D + 1) q_Law_flow [.ref 0, ax_i x, ax_i i, .ref 314] z (some (ax_i 1), z1) := by
  refine ai_Ex.of (M := m_Law_flow) rfl (Nat.le_of_ble_eq_true rfl) ?_
  refine ai_mv_Rn 5 (0, [some (.ref 0), some (ax_i x), some (ax_i i), some (.ref 314), none], []) (5, [some (.ref 0), some (ax_i x), some (ax_i i), some (.ref 314), none], [ax_i i, ax_i x, .ref 0, ax_i 0, .ref 314]) rfl ?_
  refine ai_Rn.callC (rest := [ax_i 0, .ref 314]) ⟨_, rfl⟩ lk_15_21 rfl h0 (Nat.le_of_ble_eq_true rfl) rfl he hc ?_
  refine ai_mv_Rn 2 (13, [some (.ref 0), some (ax_i x), some (ax_i i), some (.ref 314), none], [.ref a]) (16, [some (.ref 0), some (ax_i x), some (ax_i i), some (.ref 314), some (.ref a)], [ax_i 1]) rfl ?_
  exact ai_Rn.iret ⟨_, rfl⟩ rfl rfl
