/-! RULES of the model's methods: a method each, and each loop of it. PRINTED by wip/gen/rules.py -/
abbrev k_Model_checkKind_34 (d : Nat) (y1 : Option Value) (x2 : Int) (V : ax_V) (Φ : ax_V → Prop) (Θ : ax_V → Prop) : Prop := ax_R ay_lay ax_t d m_Model_checkKind 34 [some (.ref 222), y1, some (ax_i x2)] [] V (ax_Nr Φ) Θ
abbrev k_Model_checkKind_70 (d : Nat) (y1 : Option Value) (x2 : Int) (V : ax_V) (Φ : ax_V → Prop) (Θ : ax_V → Prop) : Prop := ax_R ay_lay ax_t d m_Model_checkKind 70 [some (.ref 222), y1, some (ax_i x2)] [] V (ax_Nr Φ) Θ
abbrev k_Model_checkKind_91 (d : Nat) (y1 : Option Value) (x2 : Int) (V : ax_V) (Φ : ax_V → Prop) (Θ : ax_V → Prop) : Prop := ax_R ay_lay ax_t d m_Model_checkKind 91 [some (.ref 222), y1, some (ax_i x2)] [] V (ax_Nr Φ) Θ
abbrev k_Model_checkKind_112 (d : Nat) (y1 : Option Value) (x2 : Int) (V : ax_V) (Φ : ax_V → Prop) (Θ : ax_V → Prop) : Prop := ax_R ay_lay ax_t d m_Model_checkKind 112 [some (.ref 222), y1, some (ax_i x2)] [] V (ax_Nr Φ) Θ
abbrev k_Model_checkKind_142 (d : Nat) (y1 : Option Value) (x2 : Int) (V : ax_V) (Φ : ax_V → Prop) (Θ : ax_V → Prop) : Prop := ax_R ay_lay ax_t d m_Model_checkKind 142 [some (.ref 222), y1, some (ax_i x2)] [] V (ax_Nr Φ) Θ
abbrev k_Model_checkKind_163 (d : Nat) (y1 : Option Value) (x2 : Int) (V : ax_V) (Φ : ax_V → Prop) (Θ : ax_V → Prop) : Prop := ax_R ay_lay ax_t d m_Model_checkKind 163 [some (.ref 222), y1, some (ax_i x2)] [] V (ax_Nr Φ) Θ
abbrev k_Model_checkKind_184 (d : Nat) (y1 : Option Value) (x2 : Int) (V : ax_V) (Φ : ax_V → Prop) (Θ : ax_V → Prop) : Prop := ax_R ay_lay ax_t d m_Model_checkKind 184 [some (.ref 222), y1, some (ax_i x2)] [] V (ax_Nr Φ) Θ
abbrev k_Model_checkKind_231 (d : Nat) (y1 : Option Value) (x2 : Int) (V : ax_V) (Φ : ax_V → Prop) (Θ : ax_V → Prop) : Prop := ax_R ay_lay ax_t d m_Model_checkKind 231 [some (.ref 222), y1, some (ax_i x2)] [] V (ax_Nr Φ) Θ
abbrev k_Model_checkKind_263 (d : Nat) (y1 : Option Value) (x2 : Int) (V : ax_V) (Φ : ax_V → Prop) (Θ : ax_V → Prop) : Prop := ax_R ay_lay ax_t d m_Model_checkKind 263 [some (.ref 222), y1, some (ax_i x2)] [] V (ax_Nr Φ) Θ
abbrev k_Model_checkKind_298 (d : Nat) (y1 : Option Value) (x2 : Int) (V : ax_V) (Φ : ax_V → Prop) (Θ : ax_V → Prop) : Prop := ax_R ay_lay ax_t d m_Model_checkKind 298 [some (.ref 222), y1, some (ax_i x2)] [] V (ax_Nr Φ) Θ
set_option maxRecDepth 20000 in
theorem r_Model_checkKind_34 {d : Nat} {V : ax_V} {Φ : ax_V → Prop} {Θ : ax_V → Prop} {y1 : Option Value} {x2 : Int} (hg : ax_g V) (hy1 : ax_y y1) (hx2 : ax_rg x2) (h : ((V 222 86 ≤ x2 → (∀ V1, V1 = ax_u V 222 10 (V 222 86) → Φ V1)) ∧ (x2 < V 222 86 → ax_N ay_lay d q_Model_checkNames [.ref 222, ax_i x2] V (fun V2 => k_Model_checkKind_34 d y1 (x2 + 1) V2 Φ Θ) Θ))) : k_Model_checkKind_34 d y1 x2 V Φ Θ := by
  refine ax_mv 2 36 [some (.ref 222), y1, some (ax_i x2)] [.ref 222, ax_i x2] rfl ?_
  refine ax_gI (kI := 86) (pc' := 39) ⟨_, rfl⟩ fl_12_444 ay_222 rfl rfl rfl ?_
  refine ax_if2 (p1 := 53) (p2 := 42) ⟨_, rfl⟩ (by decide) rfl hx2 (hg _ _) (fun hc => ?_) (fun hc => ?_)
  · have h := h.1 hc
    refine ax_mv 2 55 [some (.ref 222), y1, some (ax_i x2)] [.ref 222, .ref 222] rfl ?_
    refine ax_gI (kI := 86) (pc' := 58) ⟨_, rfl⟩ fl_12_444 ay_222 rfl rfl rfl ?_
    obtain ⟨V1, eV1⟩ : ∃ W9 : ax_V, W9 = ax_u V 222 10 (V 222 86) := ⟨_, rfl⟩
    have h := h V1 eV1
    have hg1 : ax_g V1 := eV1 ▸ ax_u_g hg (hg _ _)
    refine ax_pI (kI := 10) (pc' := 61) ⟨_, rfl⟩ fl_12_320 ay_ok ay_222 rfl rfl rfl rfl eV1 rfl ?_
    refine ax_mv 1 317 [some (.ref 222), y1, some (ax_i x2)] [] rfl ?_
    exact ax_nret ⟨_, rfl⟩ rfl hg1 h
  · have h := h.2 (Int.not_le.mp hc)
    refine ax_mv 2 44 [some (.ref 222), y1, some (ax_i x2)] [ax_i x2, .ref 222] rfl ?_
    refine ax_callN (pc' := 47) ⟨_, rfl⟩ ml_12_537 (rest := []) rfl (fun ss hs => ⟨_, _, ay_222 ss hs⟩) (Nat.le_of_ble_eq_true rfl) rfl rfl h (fun V2 hg2 h => ?_)
    refine ax_inc (x := x2) (pc' := 50) (L' := [some (.ref 222), y1, some (ax_i (x2 + 1))]) ⟨_, rfl⟩ rfl (ax_kill_y (k := 1) rfl hy1) rfl rfl ?_
    refine ax_mv 1 34 [some (.ref 222), y1, some (ax_i (x2 + 1))] [] rfl ?_
    exact h
set_option maxRecDepth 20000 in
theorem r_Model_checkKind_70 {d : Nat} {V : ax_V} {Φ : ax_V → Prop} {Θ : ax_V → Prop} {y1 : Option Value} {x2 : Int} (hg : ax_g V) (hy1 : ax_y y1) (hx2 : ax_rg x2) (h : ((V 222 26 ≤ x2 → k_Model_checkKind_91 d y1 0 V Φ Θ) ∧ (x2 < V 222 26 → ax_N ay_lay d q_Model_checkTypes [.ref 222, ax_i x2] V (fun V1 => k_Model_checkKind_70 d y1 (x2 + 1) V1 Φ Θ) Θ))) : k_Model_checkKind_70 d y1 x2 V Φ Θ := by
  refine ax_mv 2 72 [some (.ref 222), y1, some (ax_i x2)] [.ref 222, ax_i x2] rfl ?_
  refine ax_gI (kI := 26) (pc' := 75) ⟨_, rfl⟩ fl_12_317 ay_222 rfl rfl rfl ?_
  refine ax_if2 (p1 := 89) (p2 := 78) ⟨_, rfl⟩ (by decide) rfl hx2 (hg _ _) (fun hc => ?_) (fun hc => ?_)
  · have h := h.1 hc
    refine ax_mv 1 90 [some (.ref 222), y1, some (ax_i x2)] [ax_i 0] rfl ?_
    refine ax_sti (i := 0) (k := 2) (n := 1) (pc' := 91) (L' := [some (.ref 222), y1, some (ax_i 0)]) ⟨_, rfl⟩ rfl rfl (ax_kill_y (k := 1) rfl hy1) (Nat.le_of_ble_eq_true rfl) rfl rfl ?_
    exact h
  · have h := h.2 (Int.not_le.mp hc)
    refine ax_mv 2 80 [some (.ref 222), y1, some (ax_i x2)] [ax_i x2, .ref 222] rfl ?_
    refine ax_callN (pc' := 83) ⟨_, rfl⟩ ml_12_543 (rest := []) rfl (fun ss hs => ⟨_, _, ay_222 ss hs⟩) (Nat.le_of_ble_eq_true rfl) rfl rfl h (fun V1 hg1 h => ?_)
    refine ax_inc (x := x2) (pc' := 86) (L' := [some (.ref 222), y1, some (ax_i (x2 + 1))]) ⟨_, rfl⟩ rfl (ax_kill_y (k := 1) rfl hy1) rfl rfl ?_
    refine ax_mv 1 70 [some (.ref 222), y1, some (ax_i (x2 + 1))] [] rfl ?_
    exact h
set_option maxRecDepth 20000 in
theorem r_Model_checkKind_91 {d : Nat} {V : ax_V} {Φ : ax_V → Prop} {Θ : ax_V → Prop} {y1 : Option Value} {x2 : Int} (hg : ax_g V) (hy1 : ax_y y1) (hx2 : ax_rg x2) (h : ((V 222 44 ≤ x2 → k_Model_checkKind_112 d y1 0 V Φ Θ) ∧ (x2 < V 222 44 → ax_N ay_lay d q_Model_checkEquation [.ref 222, ax_i x2] V (fun V1 => k_Model_checkKind_91 d y1 (x2 + 1) V1 Φ Θ) Θ))) : k_Model_checkKind_91 d y1 x2 V Φ Θ := by
  refine ax_mv 2 93 [some (.ref 222), y1, some (ax_i x2)] [.ref 222, ax_i x2] rfl ?_
  refine ax_gI (kI := 44) (pc' := 96) ⟨_, rfl⟩ fl_12_414 ay_222 rfl rfl rfl ?_
  refine ax_if2 (p1 := 110) (p2 := 99) ⟨_, rfl⟩ (by decide) rfl hx2 (hg _ _) (fun hc => ?_) (fun hc => ?_)
  · have h := h.1 hc
    refine ax_mv 1 111 [some (.ref 222), y1, some (ax_i x2)] [ax_i 0] rfl ?_
    refine ax_sti (i := 0) (k := 2) (n := 1) (pc' := 112) (L' := [some (.ref 222), y1, some (ax_i 0)]) ⟨_, rfl⟩ rfl rfl (ax_kill_y (k := 1) rfl hy1) (Nat.le_of_ble_eq_true rfl) rfl rfl ?_
    exact h
  · have h := h.2 (Int.not_le.mp hc)
    refine ax_mv 2 101 [some (.ref 222), y1, some (ax_i x2)] [ax_i x2, .ref 222] rfl ?_
    refine ax_callN (pc' := 104) ⟨_, rfl⟩ ml_12_546 (rest := []) rfl (fun ss hs => ⟨_, _, ay_222 ss hs⟩) (Nat.le_of_ble_eq_true rfl) rfl rfl h (fun V1 hg1 h => ?_)
    refine ax_inc (x := x2) (pc' := 107) (L' := [some (.ref 222), y1, some (ax_i (x2 + 1))]) ⟨_, rfl⟩ rfl (ax_kill_y (k := 1) rfl hy1) rfl rfl ?_
    refine ax_mv 1 91 [some (.ref 222), y1, some (ax_i (x2 + 1))] [] rfl ?_
    exact h
set_option maxRecDepth 20000 in
theorem r_Model_checkKind_112 {d : Nat} {V : ax_V} {Φ : ax_V → Prop} {Θ : ax_V → Prop} {y1 : Option Value} {x2 : Int} (hg : ax_g V) (hy1 : ax_y y1) (hx2 : ax_rg x2) (h : ((V 222 60 ≤ x2 → Φ V) ∧ (x2 < V 222 60 → (0 ≤ x2 ∧ x2 < 351) ∧ ax_N ay_lay d q_Model_must [.ref 222, ax_i (V 277 x2), ax_i 1] V (fun V1 => k_Model_checkKind_112 d y1 (x2 + 1) V1 Φ Θ) Θ))) : k_Model_checkKind_112 d y1 x2 V Φ Θ := by
  refine ax_mv 2 114 [some (.ref 222), y1, some (ax_i x2)] [.ref 222, ax_i x2] rfl ?_
  refine ax_gI (kI := 60) (pc' := 117) ⟨_, rfl⟩ fl_12_420 ay_222 rfl rfl rfl ?_
  refine ax_if2 (p1 := 137) (p2 := 120) ⟨_, rfl⟩ (by decide) rfl hx2 (hg _ _) (fun hc => ?_) (fun hc => ?_)
  · have h := h.1 hc
    refine ax_mv 1 317 [some (.ref 222), y1, some (ax_i x2)] [] rfl ?_
    exact ax_nret ⟨_, rfl⟩ rfl hg h
  · have h := h.2 (Int.not_le.mp hc)
    refine ax_mv 2 122 [some (.ref 222), y1, some (ax_i x2)] [.ref 222, .ref 222] rfl ?_
    refine ax_gR (v := .ref 277) (pc' := 125) ⟨_, rfl⟩ fl_12_173 ay_222 rfl rfl ?_
    refine ax_mv 1 126 [some (.ref 222), y1, some (ax_i x2)] [ax_i x2, .ref 277, .ref 222] rfl ?_
    obtain ⟨o1, h⟩ := h
    refine ax_ild (n := 351) (pc' := 127) ⟨_, rfl⟩ ay_277 (by decide) o1 rfl ?_
    refine ax_mv 1 128 [some (.ref 222), y1, some (ax_i x2)] [ax_i 1, ax_i (V 277 x2), .ref 222] rfl ?_
    refine ax_callN (pc' := 131) ⟨_, rfl⟩ ml_12_484 (rest := []) rfl (fun ss hs => ⟨_, _, ay_222 ss hs⟩) (Nat.le_of_ble_eq_true rfl) rfl rfl h (fun V1 hg1 h => ?_)
    refine ax_inc (x := x2) (pc' := 134) (L' := [some (.ref 222), y1, some (ax_i (x2 + 1))]) ⟨_, rfl⟩ rfl (ax_kill_y (k := 1) rfl hy1) rfl rfl ?_
    refine ax_mv 1 112 [some (.ref 222), y1, some (ax_i (x2 + 1))] [] rfl ?_
    exact h
set_option maxRecDepth 20000 in
theorem r_Model_checkKind_142 {d : Nat} {V : ax_V} {Φ : ax_V → Prop} {Θ : ax_V → Prop} {y1 : Option Value} {x2 : Int} (hg : ax_g V) (hy1 : ax_y y1) (hx2 : ax_rg x2) (h : ((V 222 26 ≤ x2 → k_Model_checkKind_163 d y1 0 V Φ Θ) ∧ (x2 < V 222 26 → ax_N ay_lay d q_Model_findClock [.ref 222, ax_i x2] V (fun V1 => k_Model_checkKind_142 d y1 (x2 + 1) V1 Φ Θ) Θ))) : k_Model_checkKind_142 d y1 x2 V Φ Θ := by
  refine ax_mv 2 144 [some (.ref 222), y1, some (ax_i x2)] [.ref 222, ax_i x2] rfl ?_
  refine ax_gI (kI := 26) (pc' := 147) ⟨_, rfl⟩ fl_12_317 ay_222 rfl rfl rfl ?_
  refine ax_if2 (p1 := 161) (p2 := 150) ⟨_, rfl⟩ (by decide) rfl hx2 (hg _ _) (fun hc => ?_) (fun hc => ?_)
  · have h := h.1 hc
    refine ax_mv 1 162 [some (.ref 222), y1, some (ax_i x2)] [ax_i 0] rfl ?_
    refine ax_sti (i := 0) (k := 2) (n := 1) (pc' := 163) (L' := [some (.ref 222), y1, some (ax_i 0)]) ⟨_, rfl⟩ rfl rfl (ax_kill_y (k := 1) rfl hy1) (Nat.le_of_ble_eq_true rfl) rfl rfl ?_
    exact h
  · have h := h.2 (Int.not_le.mp hc)
    refine ax_mv 2 152 [some (.ref 222), y1, some (ax_i x2)] [ax_i x2, .ref 222] rfl ?_
    refine ax_callN (pc' := 155) ⟨_, rfl⟩ ml_12_549 (rest := []) rfl (fun ss hs => ⟨_, _, ay_222 ss hs⟩) (Nat.le_of_ble_eq_true rfl) rfl rfl h (fun V1 hg1 h => ?_)
    refine ax_inc (x := x2) (pc' := 158) (L' := [some (.ref 222), y1, some (ax_i (x2 + 1))]) ⟨_, rfl⟩ rfl (ax_kill_y (k := 1) rfl hy1) rfl rfl ?_
    refine ax_mv 1 142 [some (.ref 222), y1, some (ax_i (x2 + 1))] [] rfl ?_
    exact h
set_option maxRecDepth 20000 in
theorem r_Model_checkKind_163 {d : Nat} {V : ax_V} {Φ : ax_V → Prop} {Θ : ax_V → Prop} {y1 : Option Value} {x2 : Int} (hg : ax_g V) (hy1 : ax_y y1) (hx2 : ax_rg x2) (h : ((V 222 26 ≤ x2 → k_Model_checkKind_184 d y1 0 V Φ Θ) ∧ (x2 < V 222 26 → ax_N ay_lay d q_Model_checkClocks [.ref 222, ax_i x2] V (fun V1 => k_Model_checkKind_163 d y1 (x2 + 1) V1 Φ Θ) Θ))) : k_Model_checkKind_163 d y1 x2 V Φ Θ := by
  refine ax_mv 2 165 [some (.ref 222), y1, some (ax_i x2)] [.ref 222, ax_i x2] rfl ?_
  refine ax_gI (kI := 26) (pc' := 168) ⟨_, rfl⟩ fl_12_317 ay_222 rfl rfl rfl ?_
  refine ax_if2 (p1 := 182) (p2 := 171) ⟨_, rfl⟩ (by decide) rfl hx2 (hg _ _) (fun hc => ?_) (fun hc => ?_)
  · have h := h.1 hc
    refine ax_mv 1 183 [some (.ref 222), y1, some (ax_i x2)] [ax_i 0] rfl ?_
    refine ax_sti (i := 0) (k := 2) (n := 1) (pc' := 184) (L' := [some (.ref 222), y1, some (ax_i 0)]) ⟨_, rfl⟩ rfl rfl (ax_kill_y (k := 1) rfl hy1) (Nat.le_of_ble_eq_true rfl) rfl rfl ?_
    exact h
  · have h := h.2 (Int.not_le.mp hc)
    refine ax_mv 2 173 [some (.ref 222), y1, some (ax_i x2)] [ax_i x2, .ref 222] rfl ?_
    refine ax_callN (pc' := 176) ⟨_, rfl⟩ ml_12_552 (rest := []) rfl (fun ss hs => ⟨_, _, ay_222 ss hs⟩) (Nat.le_of_ble_eq_true rfl) rfl rfl h (fun V1 hg1 h => ?_)
    refine ax_inc (x := x2) (pc' := 179) (L' := [some (.ref 222), y1, some (ax_i (x2 + 1))]) ⟨_, rfl⟩ rfl (ax_kill_y (k := 1) rfl hy1) rfl rfl ?_
    refine ax_mv 1 163 [some (.ref 222), y1, some (ax_i (x2 + 1))] [] rfl ?_
    exact h
set_option maxRecDepth 20000 in
theorem r_Model_checkKind_184 {d : Nat} {V : ax_V} {Φ : ax_V → Prop} {Θ : ax_V → Prop} {y1 : Option Value} {x2 : Int} (hg : ax_g V) (hy1 : ax_y y1) (hx2 : ax_rg x2) (h : ((V 222 44 ≤ x2 → k_Model_checkKind_231 d y1 0 V Φ Θ) ∧ (x2 < V 222 44 → ax_N ay_lay d q_Model_checkEquationClock [.ref 222, ax_i x2] V (fun V1 => (0 ≤ x2 ∧ x2 < 351) ∧ ((V1 263 x2 = -1 → k_Model_checkKind_184 d y1 (x2 + 1) V1 Φ Θ) ∧ (¬ V1 263 x2 = -1 → (0 ≤ x2 ∧ x2 < 351) ∧ (0 ≤ x2 ∧ x2 < 351) ∧ ax_N ay_lay d q_Model_checkInAutomaton [.ref 222, ax_i (V1 261 x2), ax_i (V1 262 x2)] V1 (fun V2 => k_Model_checkKind_184 d y1 (x2 + 1) V2 Φ Θ) Θ))) Θ))) : k_Model_checkKind_184 d y1 x2 V Φ Θ := by
  refine ax_mv 2 186 [some (.ref 222), y1, some (ax_i x2)] [.ref 222, ax_i x2] rfl ?_
  refine ax_gI (kI := 44) (pc' := 189) ⟨_, rfl⟩ fl_12_414 ay_222 rfl rfl rfl ?_
  refine ax_if2 (p1 := 229) (p2 := 192) ⟨_, rfl⟩ (by decide) rfl hx2 (hg _ _) (fun hc => ?_) (fun hc => ?_)
  · have h := h.1 hc
    refine ax_mv 1 230 [some (.ref 222), y1, some (ax_i x2)] [ax_i 0] rfl ?_
    refine ax_sti (i := 0) (k := 2) (n := 1) (pc' := 231) (L' := [some (.ref 222), y1, some (ax_i 0)]) ⟨_, rfl⟩ rfl rfl (ax_kill_y (k := 1) rfl hy1) (Nat.le_of_ble_eq_true rfl) rfl rfl ?_
    exact h
  · have h := h.2 (Int.not_le.mp hc)
    refine ax_mv 2 194 [some (.ref 222), y1, some (ax_i x2)] [ax_i x2, .ref 222] rfl ?_
    refine ax_callN (pc' := 197) ⟨_, rfl⟩ ml_12_555 (rest := []) rfl (fun ss hs => ⟨_, _, ay_222 ss hs⟩) (Nat.le_of_ble_eq_true rfl) rfl rfl h (fun V1 hg1 h => ?_)
    refine ax_mv 1 198 [some (.ref 222), y1, some (ax_i x2)] [.ref 222] rfl ?_
    refine ax_gR (v := .ref 263) (pc' := 201) ⟨_, rfl⟩ fl_12_131 ay_222 rfl rfl ?_
    refine ax_mv 1 202 [some (.ref 222), y1, some (ax_i x2)] [ax_i x2, .ref 263] rfl ?_
    obtain ⟨o2, h⟩ := h
    refine ax_ild (n := 351) (pc' := 203) ⟨_, rfl⟩ ay_263 (by decide) o2 rfl ?_
    refine ax_mv 1 204 [some (.ref 222), y1, some (ax_i x2)] [ax_i (-1), ax_i (V1 263 x2)] rfl ?_
    refine ax_if2 (p1 := 223) (p2 := 207) ⟨_, rfl⟩ (by decide) rfl (hg1 _ _) (by decide) (fun hc => ?_) (fun hc => ?_)
    · have h := h.1 hc
      refine ax_inc (x := x2) (pc' := 226) (L' := [some (.ref 222), y1, some (ax_i (x2 + 1))]) ⟨_, rfl⟩ rfl (ax_kill_y (k := 1) rfl hy1) rfl rfl ?_
      refine ax_mv 1 184 [some (.ref 222), y1, some (ax_i (x2 + 1))] [] rfl ?_
      exact h
    · have h := h.2 hc
      refine ax_mv 2 209 [some (.ref 222), y1, some (ax_i x2)] [.ref 222, .ref 222] rfl ?_
      refine ax_gR (v := .ref 261) (pc' := 212) ⟨_, rfl⟩ fl_12_125 ay_222 rfl rfl ?_
      refine ax_mv 1 213 [some (.ref 222), y1, some (ax_i x2)] [ax_i x2, .ref 261, .ref 222] rfl ?_
      obtain ⟨o3, h⟩ := h
      refine ax_ild (n := 351) (pc' := 214) ⟨_, rfl⟩ ay_261 (by decide) o3 rfl ?_
      refine ax_mv 1 215 [some (.ref 222), y1, some (ax_i x2)] [.ref 222, ax_i (V1 261 x2), .ref 222] rfl ?_
      refine ax_gR (v := .ref 262) (pc' := 218) ⟨_, rfl⟩ fl_12_128 ay_222 rfl rfl ?_
      refine ax_mv 1 219 [some (.ref 222), y1, some (ax_i x2)] [ax_i x2, .ref 262, ax_i (V1 261 x2), .ref 222] rfl ?_
      obtain ⟨o4, h⟩ := h
      refine ax_ild (n := 351) (pc' := 220) ⟨_, rfl⟩ ay_262 (by decide) o4 rfl ?_
      refine ax_callN (pc' := 223) ⟨_, rfl⟩ ml_12_558 (rest := []) rfl (fun ss hs => ⟨_, _, ay_222 ss hs⟩) (Nat.le_of_ble_eq_true rfl) rfl rfl h (fun V2 hg2 h => ?_)
      refine ax_inc (x := x2) (pc' := 226) (L' := [some (.ref 222), y1, some (ax_i (x2 + 1))]) ⟨_, rfl⟩ rfl (ax_kill_y (k := 1) rfl hy1) rfl rfl ?_
      refine ax_mv 1 184 [some (.ref 222), y1, some (ax_i (x2 + 1))] [] rfl ?_
      exact h
set_option maxRecDepth 20000 in
theorem r_Model_checkKind_231 {d : Nat} {V : ax_V} {Φ : ax_V → Prop} {Θ : ax_V → Prop} {y1 : Option Value} {x2 : Int} (hg : ax_g V) (hy1 : ax_y y1) (hx2 : ax_rg x2) (h : ((V 222 60 ≤ x2 → k_Model_checkKind_263 d y1 0 V Φ Θ) ∧ (x2 < V 222 60 → (0 ≤ x2 ∧ x2 < 351) ∧ (0 ≤ x2 ∧ x2 < 351) ∧ ax_N ay_lay d q_Model_checkInAutomaton [.ref 222, ax_i (V 276 x2), ax_i (V 277 x2)] V (fun V1 => k_Model_checkKind_231 d y1 (x2 + 1) V1 Φ Θ) Θ))) : k_Model_checkKind_231 d y1 x2 V Φ Θ := by
  refine ax_mv 2 233 [some (.ref 222), y1, some (ax_i x2)] [.ref 222, ax_i x2] rfl ?_
  refine ax_gI (kI := 60) (pc' := 236) ⟨_, rfl⟩ fl_12_420 ay_222 rfl rfl rfl ?_
  refine ax_if2 (p1 := 261) (p2 := 239) ⟨_, rfl⟩ (by decide) rfl hx2 (hg _ _) (fun hc => ?_) (fun hc => ?_)
  · have h := h.1 hc
    refine ax_mv 1 262 [some (.ref 222), y1, some (ax_i x2)] [ax_i 0] rfl ?_
    refine ax_sti (i := 0) (k := 2) (n := 1) (pc' := 263) (L' := [some (.ref 222), y1, some (ax_i 0)]) ⟨_, rfl⟩ rfl rfl (ax_kill_y (k := 1) rfl hy1) (Nat.le_of_ble_eq_true rfl) rfl rfl ?_
    exact h
  · have h := h.2 (Int.not_le.mp hc)
    refine ax_mv 2 241 [some (.ref 222), y1, some (ax_i x2)] [.ref 222, .ref 222] rfl ?_
    refine ax_gR (v := .ref 276) (pc' := 244) ⟨_, rfl⟩ fl_12_170 ay_222 rfl rfl ?_
    refine ax_mv 1 245 [some (.ref 222), y1, some (ax_i x2)] [ax_i x2, .ref 276, .ref 222] rfl ?_
    obtain ⟨o5, h⟩ := h
    refine ax_ild (n := 351) (pc' := 246) ⟨_, rfl⟩ ay_276 (by decide) o5 rfl ?_
    refine ax_mv 1 247 [some (.ref 222), y1, some (ax_i x2)] [.ref 222, ax_i (V 276 x2), .ref 222] rfl ?_
    refine ax_gR (v := .ref 277) (pc' := 250) ⟨_, rfl⟩ fl_12_173 ay_222 rfl rfl ?_
    refine ax_mv 1 251 [some (.ref 222), y1, some (ax_i x2)] [ax_i x2, .ref 277, ax_i (V 276 x2), .ref 222] rfl ?_
    obtain ⟨o6, h⟩ := h
    refine ax_ild (n := 351) (pc' := 252) ⟨_, rfl⟩ ay_277 (by decide) o6 rfl ?_
    refine ax_callN (pc' := 255) ⟨_, rfl⟩ ml_12_558 (rest := []) rfl (fun ss hs => ⟨_, _, ay_222 ss hs⟩) (Nat.le_of_ble_eq_true rfl) rfl rfl h (fun V1 hg1 h => ?_)
    refine ax_inc (x := x2) (pc' := 258) (L' := [some (.ref 222), y1, some (ax_i (x2 + 1))]) ⟨_, rfl⟩ rfl (ax_kill_y (k := 1) rfl hy1) rfl rfl ?_
    refine ax_mv 1 231 [some (.ref 222), y1, some (ax_i (x2 + 1))] [] rfl ?_
    exact h
set_option maxRecDepth 20000 in
theorem r_Model_checkKind_263 {d : Nat} {V : ax_V} {Φ : ax_V → Prop} {Θ : ax_V → Prop} {y1 : Option Value} {x2 : Int} (hg : ax_g V) (hy1 : ax_y y1) (hx2 : ax_rg x2) (h : ((V 222 86 ≤ x2 → Φ V) ∧ (x2 < V 222 86 → ax_N ay_lay d q_Model_checkRings [.ref 222, ax_i x2] V (fun V1 => k_Model_checkKind_263 d y1 (x2 + 1) V1 Φ Θ) Θ))) : k_Model_checkKind_263 d y1 x2 V Φ Θ := by
  refine ax_mv 2 265 [some (.ref 222), y1, some (ax_i x2)] [.ref 222, ax_i x2] rfl ?_
  refine ax_gI (kI := 86) (pc' := 268) ⟨_, rfl⟩ fl_12_444 ay_222 rfl rfl rfl ?_
  refine ax_if2 (p1 := 282) (p2 := 271) ⟨_, rfl⟩ (by decide) rfl hx2 (hg _ _) (fun hc => ?_) (fun hc => ?_)
  · have h := h.1 hc
    refine ax_mv 1 317 [some (.ref 222), y1, some (ax_i x2)] [] rfl ?_
    exact ax_nret ⟨_, rfl⟩ rfl hg h
  · have h := h.2 (Int.not_le.mp hc)
    refine ax_mv 2 273 [some (.ref 222), y1, some (ax_i x2)] [ax_i x2, .ref 222] rfl ?_
    refine ax_callN (pc' := 276) ⟨_, rfl⟩ ml_12_561 (rest := []) rfl (fun ss hs => ⟨_, _, ay_222 ss hs⟩) (Nat.le_of_ble_eq_true rfl) rfl rfl h (fun V1 hg1 h => ?_)
    refine ax_inc (x := x2) (pc' := 279) (L' := [some (.ref 222), y1, some (ax_i (x2 + 1))]) ⟨_, rfl⟩ rfl (ax_kill_y (k := 1) rfl hy1) rfl rfl ?_
    refine ax_mv 1 263 [some (.ref 222), y1, some (ax_i (x2 + 1))] [] rfl ?_
    exact h
set_option maxRecDepth 20000 in
theorem r_Model_checkKind_298 {d : Nat} {V : ax_V} {Φ : ax_V → Prop} {Θ : ax_V → Prop} {y1 : Option Value} {x2 : Int} (hg : ax_g V) (hy1 : ax_y y1) (hx2 : ax_rg x2) (h : ((V 222 86 ≤ x2 → Φ V) ∧ (x2 < V 222 86 → ax_N ay_lay d q_Model_checkCycles [.ref 222, ax_i x2] V (fun V1 => k_Model_checkKind_298 d y1 (x2 + 1) V1 Φ Θ) Θ))) : k_Model_checkKind_298 d y1 x2 V Φ Θ := by
  refine ax_mv 2 300 [some (.ref 222), y1, some (ax_i x2)] [.ref 222, ax_i x2] rfl ?_
  refine ax_gI (kI := 86) (pc' := 303) ⟨_, rfl⟩ fl_12_444 ay_222 rfl rfl rfl ?_
  refine ax_if2 (p1 := 317) (p2 := 306) ⟨_, rfl⟩ (by decide) rfl hx2 (hg _ _) (fun hc => ?_) (fun hc => ?_)
  · have h := h.1 hc
    exact ax_nret ⟨_, rfl⟩ rfl hg h
  · have h := h.2 (Int.not_le.mp hc)
    refine ax_mv 2 308 [some (.ref 222), y1, some (ax_i x2)] [ax_i x2, .ref 222] rfl ?_
    refine ax_callN (pc' := 311) ⟨_, rfl⟩ ml_12_570 (rest := []) rfl (fun ss hs => ⟨_, _, ay_222 ss hs⟩) (Nat.le_of_ble_eq_true rfl) rfl rfl h (fun V1 hg1 h => ?_)
    refine ax_inc (x := x2) (pc' := 314) (L' := [some (.ref 222), y1, some (ax_i (x2 + 1))]) ⟨_, rfl⟩ rfl (ax_kill_y (k := 1) rfl hy1) rfl rfl ?_
    refine ax_mv 1 298 [some (.ref 222), y1, some (ax_i (x2 + 1))] [] rfl ?_
    exact h
set_option maxRecDepth 20000 in
theorem r_Model_checkKind {d : Nat} {V : ax_V} {Φ : ax_V → Prop} {Θ : ax_V → Prop} {x1 : Int} (hg : ax_g V) (hx1 : ax_rg x1) (h : ((x1 = 2 → k_Model_checkKind_34 d (some (ax_i x1)) 0 V Φ Θ) ∧ (x1 = 3 → ax_N ay_lay d q_Model_findTypes [.ref 222] V (fun V1 => k_Model_checkKind_70 d (some (ax_i x1)) 0 V1 Φ Θ) Θ) ∧ (x1 = 4 → k_Model_checkKind_142 d (some (ax_i x1)) 0 V Φ Θ) ∧ (x1 = 5 → ax_N ay_lay d q_Model_checkFirsts [.ref 222] V (fun V2 => Φ V2) Θ) ∧ (¬ x1 = 2 → ¬ x1 = 3 → ¬ x1 = 4 → ¬ x1 = 5 → ax_N ay_lay d q_Model_findLater [.ref 222] V (fun V3 => k_Model_checkKind_298 d (some (ax_i x1)) 0 V3 Φ Θ) Θ))) : ax_N ay_lay (d + 1) q_Model_checkKind [.ref 222, ax_i x1] V Φ Θ := by
  refine ax_T.of (M := m_Model_checkKind) rfl (Nat.le_of_ble_eq_true rfl) ?_
  refine ax_mv 0 0 [some (.ref 222), some (ax_i x1), none] [] rfl ?_
  refine ax_mv 1 1 [some (.ref 222), some (ax_i x1), none] [ax_i x1] rfl ?_
  have t0 : (x1 = 2) → ax_R ay_lay ax_t d m_Model_checkKind 32 [some (.ref 222), some (ax_i x1), none] [] V (ax_Nr Φ) Θ := fun hk => by
    have h := h.1 hk
    refine ax_mv 1 33 [some (.ref 222), some (ax_i x1), none] [ax_i 0] rfl ?_
    refine ax_sti (i := 0) (k := 2) (n := 1) (pc' := 34) (L' := [some (.ref 222), some (ax_i x1), some (ax_i 0)]) ⟨_, rfl⟩ rfl rfl rfl (Nat.le_of_ble_eq_true rfl) rfl rfl ?_
    exact h
  have t1 : (x1 = 3) → ax_R ay_lay ax_t d m_Model_checkKind 64 [some (.ref 222), some (ax_i x1), none] [] V (ax_Nr Φ) Θ := fun hk => by
    have h := h.2.1 hk
    refine ax_mv 1 65 [some (.ref 222), some (ax_i x1), none] [.ref 222] rfl ?_
    refine ax_callN (pc' := 68) ⟨_, rfl⟩ ml_12_540 (rest := []) rfl (fun ss hs => ⟨_, _, ay_222 ss hs⟩) (Nat.le_of_ble_eq_true rfl) rfl rfl h (fun V1 hg1 h => ?_)
    refine ax_mv 1 69 [some (.ref 222), some (ax_i x1), none] [ax_i 0] rfl ?_
    refine ax_sti (i := 0) (k := 2) (n := 1) (pc' := 70) (L' := [some (.ref 222), some (ax_i x1), some (ax_i 0)]) ⟨_, rfl⟩ rfl rfl rfl (Nat.le_of_ble_eq_true rfl) rfl rfl ?_
    exact h
  have t2 : (x1 = 4) → ax_R ay_lay ax_t d m_Model_checkKind 140 [some (.ref 222), some (ax_i x1), none] [] V (ax_Nr Φ) Θ := fun hk => by
    have h := h.2.2.1 hk
    refine ax_mv 1 141 [some (.ref 222), some (ax_i x1), none] [ax_i 0] rfl ?_
    refine ax_sti (i := 0) (k := 2) (n := 1) (pc' := 142) (L' := [some (.ref 222), some (ax_i x1), some (ax_i 0)]) ⟨_, rfl⟩ rfl rfl rfl (Nat.le_of_ble_eq_true rfl) rfl rfl ?_
    exact h
  have t3 : (x1 = 5) → ax_R ay_lay ax_t d m_Model_checkKind 285 [some (.ref 222), some (ax_i x1), none] [] V (ax_Nr Φ) Θ := fun hk => by
    have h := h.2.2.2.1 hk
    refine ax_mv 1 286 [some (.ref 222), some (ax_i x1), none] [.ref 222] rfl ?_
    refine ax_callN (pc' := 289) ⟨_, rfl⟩ ml_12_564 (rest := []) rfl (fun ss hs => ⟨_, _, ay_222 ss hs⟩) (Nat.le_of_ble_eq_true rfl) rfl rfl h (fun V2 hg2 h => ?_)
    refine ax_mv 1 317 [some (.ref 222), some (ax_i x1), none] [] rfl ?_
    exact ax_nret ⟨_, rfl⟩ rfl hg2 h
  have tD : ¬ x1 = 2 → ¬ x1 = 3 → ¬ x1 = 4 → ¬ x1 = 5 → ax_R ay_lay ax_t d m_Model_checkKind 292 [some (.ref 222), some (ax_i x1), none] [] V (ax_Nr Φ) Θ := fun n0 n1 n2 n3 => by
    have h := h.2.2.2.2 n0 n1 n2 n3
    refine ax_mv 1 293 [some (.ref 222), some (ax_i x1), none] [.ref 222] rfl ?_
    refine ax_callN (pc' := 296) ⟨_, rfl⟩ ml_12_567 (rest := []) rfl (fun ss hs => ⟨_, _, ay_222 ss hs⟩) (Nat.le_of_ble_eq_true rfl) rfl rfl h (fun V3 hg3 h => ?_)
    refine ax_mv 1 297 [some (.ref 222), some (ax_i x1), none] [ax_i 0] rfl ?_
    refine ax_sti (i := 0) (k := 2) (n := 1) (pc' := 298) (L' := [some (.ref 222), some (ax_i x1), some (ax_i 0)]) ⟨_, rfl⟩ rfl rfl rfl (Nat.le_of_ble_eq_true rfl) rfl rfl ?_
    exact h
  by_cases e2 : x1 = 2
  · exact ax_tsC (off := 31) (p1 := 32) ⟨_, rfl⟩ hx1 (by omega) (by omega) (by rw [e2]; rfl) (by decide) (t0 (e2))
  by_cases e3 : x1 = 3
  · exact ax_tsC (off := 63) (p1 := 64) ⟨_, rfl⟩ hx1 (by omega) (by omega) (by rw [e3]; rfl) (by decide) (t1 (e3))
  by_cases e4 : x1 = 4
  · exact ax_tsC (off := 139) (p1 := 140) ⟨_, rfl⟩ hx1 (by omega) (by omega) (by rw [e4]; rfl) (by decide) (t2 (e4))
  by_cases e5 : x1 = 5
  · exact ax_tsC (off := 284) (p1 := 285) ⟨_, rfl⟩ hx1 (by omega) (by omega) (by rw [e5]; rfl) (by decide) (t3 (e5))
  exact ax_tsD (p1 := 292) ⟨_, rfl⟩ hx1 (by omega) (by decide) (tD e2 e3 e4 e5)
abbrev k_Model_checkNames_7 (d : Nat) (x1 : Int) (x2 : Int) (y3 : Option Value) (V : ax_V) (Φ : ax_V → Prop) (Θ : ax_V → Prop) : Prop := ax_R ay_lay ax_t d m_Model_checkNames 7 [some (.ref 222), some (ax_i x1), some (ax_i x2), y3] [] V (ax_Nr Φ) Θ
abbrev k_Model_checkNames_53 (d : Nat) (x1 : Int) (x2 : Int) (y3 : Option Value) (V : ax_V) (Φ : ax_V → Prop) (Θ : ax_V → Prop) : Prop := ax_R ay_lay ax_t d m_Model_checkNames 53 [some (.ref 222), some (ax_i x1), some (ax_i x2), y3] [] V (ax_Nr Φ) Θ
abbrev k_Model_checkNames_95 (d : Nat) (x1 : Int) (x2 : Int) (y3 : Option Value) (V : ax_V) (Φ : ax_V → Prop) (Θ : ax_V → Prop) : Prop := ax_R ay_lay ax_t d m_Model_checkNames 95 [some (.ref 222), some (ax_i x1), some (ax_i x2), y3] [] V (ax_Nr Φ) Θ
abbrev k_Model_checkNames_126 (d : Nat) (x1 : Int) (x2 : Int) (y3 : Option Value) (V : ax_V) (Φ : ax_V → Prop) (Θ : ax_V → Prop) : Prop := ax_R ay_lay ax_t d m_Model_checkNames 126 [some (.ref 222), some (ax_i x1), some (ax_i x2), y3] [] V (ax_Nr Φ) Θ
abbrev k_Model_checkNames_157 (d : Nat) (x1 : Int) (x2 : Int) (y3 : Option Value) (V : ax_V) (Φ : ax_V → Prop) (Θ : ax_V → Prop) : Prop := ax_R ay_lay ax_t d m_Model_checkNames 157 [some (.ref 222), some (ax_i x1), some (ax_i x2), y3] [] V (ax_Nr Φ) Θ
abbrev k_Model_checkNames_232 (d : Nat) (x1 : Int) (x2 : Int) (y3 : Option Value) (V : ax_V) (Φ : ax_V → Prop) (Θ : ax_V → Prop) : Prop := ax_R ay_lay ax_t d m_Model_checkNames 232 [some (.ref 222), some (ax_i x1), some (ax_i x2), y3] [] V (ax_Nr Φ) Θ
set_option maxRecDepth 20000 in
theorem r_Model_checkNames_7 {d : Nat} {V : ax_V} {Φ : ax_V → Prop} {Θ : ax_V → Prop} {x1 : Int} {x2 : Int} {y3 : Option Value} (hg : ax_g V) (hx1 : ax_rg x1) (hx2 : ax_rg x2) (hy3 : ax_y y3) (h : ((V 222 86 ≤ x2 → k_Model_checkNames_53 d x1 0 y3 V Φ Θ) ∧ (x2 < V 222 86 → ((x1 ≤ x2 → k_Model_checkNames_7 d x1 (x2 + 1) y3 V Φ Θ) ∧ (x2 < x1 → (0 ≤ x2 ∧ x2 < 9) ∧ (0 ≤ x1 ∧ x1 < 9) ∧ ((V 226 x2 = V 226 x1 → (0 ≤ x1 ∧ x1 < 9) ∧ ax_N ay_lay d q_Model_note [.ref 222, ax_i (V 287 x1)] V (fun V1 => k_Model_checkNames_7 d x1 (x2 + 1) y3 V1 Φ Θ) Θ) ∧ (¬ V 226 x2 = V 226 x1 → k_Model_checkNames_7 d x1 (x2 + 1) y3 V Φ Θ))))))) : k_Model_checkNames_7 d x1 x2 y3 V Φ Θ := by
  refine ax_mv 2 9 [some (.ref 222), some (ax_i x1), some (ax_i x2), y3] [.ref 222, ax_i x2] rfl ?_
  refine ax_gI (kI := 86) (pc' := 12) ⟨_, rfl⟩ fl_12_444 ay_222 rfl rfl rfl ?_
  refine ax_if2 (p1 := 51) (p2 := 15) ⟨_, rfl⟩ (by decide) rfl hx2 (hg _ _) (fun hc => ?_) (fun hc => ?_)
  · have h := h.1 hc
    refine ax_mv 1 52 [some (.ref 222), some (ax_i x1), some (ax_i x2), y3] [ax_i 0] rfl ?_
    refine ax_sti (i := 0) (k := 2) (n := 1) (pc' := 53) (L' := [some (.ref 222), some (ax_i x1), some (ax_i 0), y3]) ⟨_, rfl⟩ rfl rfl rfl (Nat.le_of_ble_eq_true rfl) rfl rfl ?_
    exact h
  · have h := h.2 (Int.not_le.mp hc)
    refine ax_mv 2 17 [some (.ref 222), some (ax_i x1), some (ax_i x2), y3] [ax_i x1, ax_i x2] rfl ?_
    refine ax_if2 (p1 := 45) (p2 := 20) ⟨_, rfl⟩ (by decide) rfl hx2 hx1 (fun hc => ?_) (fun hc => ?_)
    · have h := h.1 hc
      refine ax_inc (x := x2) (pc' := 48) (L' := [some (.ref 222), some (ax_i x1), some (ax_i (x2 + 1)), y3]) ⟨_, rfl⟩ rfl rfl rfl rfl ?_
      refine ax_mv 1 7 [some (.ref 222), some (ax_i x1), some (ax_i (x2 + 1)), y3] [] rfl ?_
      exact h
    · have h := h.2 (Int.not_le.mp hc)
      refine ax_mv 1 21 [some (.ref 222), some (ax_i x1), some (ax_i x2), y3] [.ref 222] rfl ?_
      refine ax_gR (v := .ref 226) (pc' := 24) ⟨_, rfl⟩ fl_12_19 ay_222 rfl rfl ?_
      refine ax_mv 1 25 [some (.ref 222), some (ax_i x1), some (ax_i x2), y3] [ax_i x2, .ref 226] rfl ?_
      obtain ⟨o1, h⟩ := h
      refine ax_ild (n := 9) (pc' := 26) ⟨_, rfl⟩ ay_226 (by decide) o1 rfl ?_
      refine ax_mv 1 27 [some (.ref 222), some (ax_i x1), some (ax_i x2), y3] [.ref 222, ax_i (V 226 x2)] rfl ?_
      refine ax_gR (v := .ref 226) (pc' := 30) ⟨_, rfl⟩ fl_12_19 ay_222 rfl rfl ?_
      refine ax_mv 1 31 [some (.ref 222), some (ax_i x1), some (ax_i x2), y3] [ax_i x1, .ref 226, ax_i (V 226 x2)] rfl ?_
      obtain ⟨o2, h⟩ := h
      refine ax_ild (n := 9) (pc' := 32) ⟨_, rfl⟩ ay_226 (by decide) o2 rfl ?_
      refine ax_if2 (p1 := 45) (p2 := 35) ⟨_, rfl⟩ (by decide) rfl (hg _ _) (hg _ _) (fun hc => ?_) (fun hc => ?_)
      · have h := h.2 hc
        refine ax_inc (x := x2) (pc' := 48) (L' := [some (.ref 222), some (ax_i x1), some (ax_i (x2 + 1)), y3]) ⟨_, rfl⟩ rfl rfl rfl rfl ?_
        refine ax_mv 1 7 [some (.ref 222), some (ax_i x1), some (ax_i (x2 + 1)), y3] [] rfl ?_
        exact h
      · have h := h.1 (Classical.not_not.mp hc)
        refine ax_mv 2 37 [some (.ref 222), some (ax_i x1), some (ax_i x2), y3] [.ref 222, .ref 222] rfl ?_
        refine ax_gR (v := .ref 287) (pc' := 40) ⟨_, rfl⟩ fl_12_203 ay_222 rfl rfl ?_
        refine ax_mv 1 41 [some (.ref 222), some (ax_i x1), some (ax_i x2), y3] [ax_i x1, .ref 287, .ref 222] rfl ?_
        obtain ⟨o3, h⟩ := h
        refine ax_ild (n := 9) (pc' := 42) ⟨_, rfl⟩ ay_287 (by decide) o3 rfl ?_
        refine ax_callN (pc' := 45) ⟨_, rfl⟩ ml_12_433 (rest := []) rfl (fun ss hs => ⟨_, _, ay_222 ss hs⟩) (Nat.le_of_ble_eq_true rfl) rfl rfl h (fun V1 hg1 h => ?_)
        refine ax_inc (x := x2) (pc' := 48) (L' := [some (.ref 222), some (ax_i x1), some (ax_i (x2 + 1)), y3]) ⟨_, rfl⟩ rfl rfl rfl rfl ?_
        refine ax_mv 1 7 [some (.ref 222), some (ax_i x1), some (ax_i (x2 + 1)), y3] [] rfl ?_
        exact h
set_option maxRecDepth 20000 in
theorem r_Model_checkNames_53 {d : Nat} {V : ax_V} {Φ : ax_V → Prop} {Θ : ax_V → Prop} {x1 : Int} {x2 : Int} {y3 : Option Value} (hg : ax_g V) (hx1 : ax_rg x1) (hx2 : ax_rg x2) (hy3 : ax_y y3) (h : ((V 222 77 ≤ x2 → k_Model_checkNames_95 d x1 0 y3 V Φ Θ) ∧ (x2 < V 222 77 → (0 ≤ x2 ∧ x2 < 240) ∧ ((V 281 x2 = x1 → (0 ≤ x2 ∧ x2 < 240) ∧ (0 ≤ x2 ∧ x2 < 240) ∧ ax_N ay_lay d q_Model_needTruth [.ref 222, ax_i (V 279 x2), ax_i (V 280 x2)] V (fun V1 => k_Model_checkNames_53 d x1 (x2 + 1) y3 V1 Φ Θ) Θ) ∧ (¬ V 281 x2 = x1 → k_Model_checkNames_53 d x1 (x2 + 1) y3 V Φ Θ))))) : k_Model_checkNames_53 d x1 x2 y3 V Φ Θ := by
  refine ax_mv 2 55 [some (.ref 222), some (ax_i x1), some (ax_i x2), y3] [.ref 222, ax_i x2] rfl ?_
  refine ax_gI (kI := 77) (pc' := 58) ⟨_, rfl⟩ fl_12_441 ay_222 rfl rfl rfl ?_
  refine ax_if2 (p1 := 93) (p2 := 61) ⟨_, rfl⟩ (by decide) rfl hx2 (hg _ _) (fun hc => ?_) (fun hc => ?_)
  · have h := h.1 hc
    refine ax_mv 1 94 [some (.ref 222), some (ax_i x1), some (ax_i x2), y3] [ax_i 0] rfl ?_
    refine ax_sti (i := 0) (k := 2) (n := 1) (pc' := 95) (L' := [some (.ref 222), some (ax_i x1), some (ax_i 0), y3]) ⟨_, rfl⟩ rfl rfl rfl (Nat.le_of_ble_eq_true rfl) rfl rfl ?_
    exact h
  · have h := h.2 (Int.not_le.mp hc)
    refine ax_mv 1 62 [some (.ref 222), some (ax_i x1), some (ax_i x2), y3] [.ref 222] rfl ?_
    refine ax_gR (v := .ref 281) (pc' := 65) ⟨_, rfl⟩ fl_12_185 ay_222 rfl rfl ?_
    refine ax_mv 1 66 [some (.ref 222), some (ax_i x1), some (ax_i x2), y3] [ax_i x2, .ref 281] rfl ?_
    obtain ⟨o4, h⟩ := h
    refine ax_ild (n := 240) (pc' := 67) ⟨_, rfl⟩ ay_281 (by decide) o4 rfl ?_
    refine ax_mv 1 68 [some (.ref 222), some (ax_i x1), some (ax_i x2), y3] [ax_i x1, ax_i (V 281 x2)] rfl ?_
    refine ax_if2 (p1 := 87) (p2 := 71) ⟨_, rfl⟩ (by decide) rfl (hg _ _) hx1 (fun hc => ?_) (fun hc => ?_)
    · have h := h.2 hc
      refine ax_inc (x := x2) (pc' := 90) (L' := [some (.ref 222), some (ax_i x1), some (ax_i (x2 + 1)), y3]) ⟨_, rfl⟩ rfl rfl rfl rfl ?_
      refine ax_mv 1 53 [some (.ref 222), some (ax_i x1), some (ax_i (x2 + 1)), y3] [] rfl ?_
      exact h
    · have h := h.1 (Classical.not_not.mp hc)
      refine ax_mv 2 73 [some (.ref 222), some (ax_i x1), some (ax_i x2), y3] [.ref 222, .ref 222] rfl ?_
      refine ax_gR (v := .ref 279) (pc' := 76) ⟨_, rfl⟩ fl_12_179 ay_222 rfl rfl ?_
      refine ax_mv 1 77 [some (.ref 222), some (ax_i x1), some (ax_i x2), y3] [ax_i x2, .ref 279, .ref 222] rfl ?_
      obtain ⟨o5, h⟩ := h
      refine ax_ild (n := 240) (pc' := 78) ⟨_, rfl⟩ ay_279 (by decide) o5 rfl ?_
      refine ax_mv 1 79 [some (.ref 222), some (ax_i x1), some (ax_i x2), y3] [.ref 222, ax_i (V 279 x2), .ref 222] rfl ?_
      refine ax_gR (v := .ref 280) (pc' := 82) ⟨_, rfl⟩ fl_12_182 ay_222 rfl rfl ?_
      refine ax_mv 1 83 [some (.ref 222), some (ax_i x1), some (ax_i x2), y3] [ax_i x2, .ref 280, ax_i (V 279 x2), .ref 222] rfl ?_
      obtain ⟨o6, h⟩ := h
      refine ax_ild (n := 240) (pc' := 84) ⟨_, rfl⟩ ay_280 (by decide) o6 rfl ?_
      refine ax_callN (pc' := 87) ⟨_, rfl⟩ ml_12_447 (rest := []) rfl (fun ss hs => ⟨_, _, ay_222 ss hs⟩) (Nat.le_of_ble_eq_true rfl) rfl rfl h (fun V1 hg1 h => ?_)
      refine ax_inc (x := x2) (pc' := 90) (L' := [some (.ref 222), some (ax_i x1), some (ax_i (x2 + 1)), y3]) ⟨_, rfl⟩ rfl rfl rfl rfl ?_
      refine ax_mv 1 53 [some (.ref 222), some (ax_i x1), some (ax_i (x2 + 1)), y3] [] rfl ?_
      exact h
set_option maxRecDepth 20000 in
theorem r_Model_checkNames_95 {d : Nat} {V : ax_V} {Φ : ax_V → Prop} {Θ : ax_V → Prop} {x1 : Int} {x2 : Int} {y3 : Option Value} (hg : ax_g V) (hx1 : ax_rg x1) (hx2 : ax_rg x2) (hy3 : ax_y y3) (h : ((V 222 26 ≤ x2 → k_Model_checkNames_126 d x1 0 y3 V Φ Θ) ∧ (x2 < V 222 26 → (0 ≤ x2 ∧ x2 < 701) ∧ ((V 250 x2 = x1 → ax_N ay_lay d q_Model_checkPart [.ref 222, ax_i x2] V (fun V1 => k_Model_checkNames_95 d x1 (x2 + 1) y3 V1 Φ Θ) Θ) ∧ (¬ V 250 x2 = x1 → k_Model_checkNames_95 d x1 (x2 + 1) y3 V Φ Θ))))) : k_Model_checkNames_95 d x1 x2 y3 V Φ Θ := by
  refine ax_mv 2 97 [some (.ref 222), some (ax_i x1), some (ax_i x2), y3] [.ref 222, ax_i x2] rfl ?_
  refine ax_gI (kI := 26) (pc' := 100) ⟨_, rfl⟩ fl_12_317 ay_222 rfl rfl rfl ?_
  refine ax_if2 (p1 := 124) (p2 := 103) ⟨_, rfl⟩ (by decide) rfl hx2 (hg _ _) (fun hc => ?_) (fun hc => ?_)
  · have h := h.1 hc
    refine ax_mv 1 125 [some (.ref 222), some (ax_i x1), some (ax_i x2), y3] [ax_i 0] rfl ?_
    refine ax_sti (i := 0) (k := 2) (n := 1) (pc' := 126) (L' := [some (.ref 222), some (ax_i x1), some (ax_i 0), y3]) ⟨_, rfl⟩ rfl rfl rfl (Nat.le_of_ble_eq_true rfl) rfl rfl ?_
    exact h
  · have h := h.2 (Int.not_le.mp hc)
    refine ax_mv 1 104 [some (.ref 222), some (ax_i x1), some (ax_i x2), y3] [.ref 222] rfl ?_
    refine ax_gR (v := .ref 250) (pc' := 107) ⟨_, rfl⟩ fl_12_92 ay_222 rfl rfl ?_
    refine ax_mv 1 108 [some (.ref 222), some (ax_i x1), some (ax_i x2), y3] [ax_i x2, .ref 250] rfl ?_
    obtain ⟨o7, h⟩ := h
    refine ax_ild (n := 701) (pc' := 109) ⟨_, rfl⟩ ay_250 (by decide) o7 rfl ?_
    refine ax_mv 1 110 [some (.ref 222), some (ax_i x1), some (ax_i x2), y3] [ax_i x1, ax_i (V 250 x2)] rfl ?_
    refine ax_if2 (p1 := 118) (p2 := 113) ⟨_, rfl⟩ (by decide) rfl (hg _ _) hx1 (fun hc => ?_) (fun hc => ?_)
    · have h := h.2 hc
      refine ax_inc (x := x2) (pc' := 121) (L' := [some (.ref 222), some (ax_i x1), some (ax_i (x2 + 1)), y3]) ⟨_, rfl⟩ rfl rfl rfl rfl ?_
      refine ax_mv 1 95 [some (.ref 222), some (ax_i x1), some (ax_i (x2 + 1)), y3] [] rfl ?_
      exact h
    · have h := h.1 (Classical.not_not.mp hc)
      refine ax_mv 2 115 [some (.ref 222), some (ax_i x1), some (ax_i x2), y3] [ax_i x2, .ref 222] rfl ?_
      refine ax_callN (pc' := 118) ⟨_, rfl⟩ ml_12_451 (rest := []) rfl (fun ss hs => ⟨_, _, ay_222 ss hs⟩) (Nat.le_of_ble_eq_true rfl) rfl rfl h (fun V1 hg1 h => ?_)
      refine ax_inc (x := x2) (pc' := 121) (L' := [some (.ref 222), some (ax_i x1), some (ax_i (x2 + 1)), y3]) ⟨_, rfl⟩ rfl rfl rfl rfl ?_
      refine ax_mv 1 95 [some (.ref 222), some (ax_i x1), some (ax_i (x2 + 1)), y3] [] rfl ?_
      exact h
set_option maxRecDepth 20000 in
theorem r_Model_checkNames_126 {d : Nat} {V : ax_V} {Φ : ax_V → Prop} {Θ : ax_V → Prop} {x1 : Int} {x2 : Int} {y3 : Option Value} (hg : ax_g V) (hx1 : ax_rg x1) (hx2 : ax_rg x2) (hy3 : ax_y y3) (h : ((V 222 44 ≤ x2 → k_Model_checkNames_157 d x1 0 y3 V Φ Θ) ∧ (x2 < V 222 44 → (0 ≤ x2 ∧ x2 < 351) ∧ ((V 258 x2 = x1 → ax_N ay_lay d q_Model_checkLefts [.ref 222, ax_i x2] V (fun V1 => k_Model_checkNames_126 d x1 (x2 + 1) y3 V1 Φ Θ) Θ) ∧ (¬ V 258 x2 = x1 → k_Model_checkNames_126 d x1 (x2 + 1) y3 V Φ Θ))))) : k_Model_checkNames_126 d x1 x2 y3 V Φ Θ := by
  refine ax_mv 2 128 [some (.ref 222), some (ax_i x1), some (ax_i x2), y3] [.ref 222, ax_i x2] rfl ?_
  refine ax_gI (kI := 44) (pc' := 131) ⟨_, rfl⟩ fl_12_414 ay_222 rfl rfl rfl ?_
  refine ax_if2 (p1 := 155) (p2 := 134) ⟨_, rfl⟩ (by decide) rfl hx2 (hg _ _) (fun hc => ?_) (fun hc => ?_)
  · have h := h.1 hc
    refine ax_mv 1 156 [some (.ref 222), some (ax_i x1), some (ax_i x2), y3] [ax_i 0] rfl ?_
    refine ax_sti (i := 0) (k := 2) (n := 1) (pc' := 157) (L' := [some (.ref 222), some (ax_i x1), some (ax_i 0), y3]) ⟨_, rfl⟩ rfl rfl rfl (Nat.le_of_ble_eq_true rfl) rfl rfl ?_
    exact h
  · have h := h.2 (Int.not_le.mp hc)
    refine ax_mv 1 135 [some (.ref 222), some (ax_i x1), some (ax_i x2), y3] [.ref 222] rfl ?_
    refine ax_gR (v := .ref 258) (pc' := 138) ⟨_, rfl⟩ fl_12_116 ay_222 rfl rfl ?_
    refine ax_mv 1 139 [some (.ref 222), some (ax_i x1), some (ax_i x2), y3] [ax_i x2, .ref 258] rfl ?_
    obtain ⟨o8, h⟩ := h
    refine ax_ild (n := 351) (pc' := 140) ⟨_, rfl⟩ ay_258 (by decide) o8 rfl ?_
    refine ax_mv 1 141 [some (.ref 222), some (ax_i x1), some (ax_i x2), y3] [ax_i x1, ax_i (V 258 x2)] rfl ?_
    refine ax_if2 (p1 := 149) (p2 := 144) ⟨_, rfl⟩ (by decide) rfl (hg _ _) hx1 (fun hc => ?_) (fun hc => ?_)
    · have h := h.2 hc
      refine ax_inc (x := x2) (pc' := 152) (L' := [some (.ref 222), some (ax_i x1), some (ax_i (x2 + 1)), y3]) ⟨_, rfl⟩ rfl rfl rfl rfl ?_
      refine ax_mv 1 126 [some (.ref 222), some (ax_i x1), some (ax_i (x2 + 1)), y3] [] rfl ?_
      exact h
    · have h := h.1 (Classical.not_not.mp hc)
      refine ax_mv 2 146 [some (.ref 222), some (ax_i x1), some (ax_i x2), y3] [ax_i x2, .ref 222] rfl ?_
      refine ax_callN (pc' := 149) ⟨_, rfl⟩ ml_12_454 (rest := []) rfl (fun ss hs => ⟨_, _, ay_222 ss hs⟩) (Nat.le_of_ble_eq_true rfl) rfl rfl h (fun V1 hg1 h => ?_)
      refine ax_inc (x := x2) (pc' := 152) (L' := [some (.ref 222), some (ax_i x1), some (ax_i (x2 + 1)), y3]) ⟨_, rfl⟩ rfl rfl rfl rfl ?_
      refine ax_mv 1 126 [some (.ref 222), some (ax_i x1), some (ax_i (x2 + 1)), y3] [] rfl ?_
      exact h
set_option maxRecDepth 20000 in
theorem r_Model_checkNames_157 {d : Nat} {V : ax_V} {Φ : ax_V → Prop} {Θ : ax_V → Prop} {x1 : Int} {x2 : Int} {y3 : Option Value} (hg : ax_g V) (hx1 : ax_rg x1) (hx2 : ax_rg x2) (hy3 : ax_y y3) (h : ((26 ≤ x2 → k_Model_checkNames_232 d x1 0 y3 V Φ Θ) ∧ (x2 < 26 → ax_I ay_lay d q_Model_at [.ref 222, ax_i x2] V (fun r1 V1 => (0 ≤ r1 ∧ r1 < 240) ∧ ((V1 232 r1 = 2 → ax_I ay_lay d q_Model_isLeft [.ref 222, ax_i x1, ax_i x2] V1 (fun r2 V2 => ((r2 = 0 → ax_I ay_lay d q_Model_at [.ref 222, ax_i x2] V2 (fun r3 V3 => (0 ≤ r3 ∧ r3 < 240) ∧ ax_N ay_lay d q_Model_note [.ref 222, ax_i (V3 234 r3)] V3 (fun V4 => k_Model_checkNames_157 d x1 (x2 + 1) (some (ax_i 1)) V4 Φ Θ) Θ) Θ) ∧ (¬ r2 = 0 → k_Model_checkNames_157 d x1 (x2 + 1) (some (ax_i 1)) V2 Φ Θ))) Θ) ∧ (¬ V1 232 r1 = 2 → ax_I ay_lay d q_Model_at [.ref 222, ax_i x2] V1 (fun r5 V5 => (0 ≤ r5 ∧ r5 < 240) ∧ ((V5 232 r5 = 3 → ax_I ay_lay d q_Model_isLeft [.ref 222, ax_i x1, ax_i x2] V5 (fun r6 V6 => ((r6 = 0 → ax_I ay_lay d q_Model_at [.ref 222, ax_i x2] V6 (fun r7 V7 => (0 ≤ r7 ∧ r7 < 240) ∧ ax_N ay_lay d q_Model_note [.ref 222, ax_i (V7 234 r7)] V7 (fun V8 => k_Model_checkNames_157 d x1 (x2 + 1) (some (ax_i 1)) V8 Φ Θ) Θ) Θ) ∧ (¬ r6 = 0 → k_Model_checkNames_157 d x1 (x2 + 1) (some (ax_i 1)) V6 Φ Θ))) Θ) ∧ (¬ V5 232 r5 = 3 → k_Model_checkNames_157 d x1 (x2 + 1) (some (ax_i 0)) V5 Φ Θ))) Θ))) Θ))) : k_Model_checkNames_157 d x1 x2 y3 V Φ Θ := by
  refine ax_mv 1 158 [some (.ref 222), some (ax_i x1), some (ax_i x2), y3] [ax_i x2] rfl ?_
  refine ax_bip (pc' := 160) ⟨_, rfl⟩ (by decide) rfl ?_
  refine ax_if2 (p1 := 230) (p2 := 163) ⟨_, rfl⟩ (by decide) rfl hx2 (by decide) (fun hc => ?_) (fun hc => ?_)
  · have h := h.1 hc
    refine ax_mv 1 231 [some (.ref 222), some (ax_i x1), some (ax_i x2), y3] [ax_i 0] rfl ?_
    refine ax_sti (i := 0) (k := 2) (n := 1) (pc' := 232) (L' := [some (.ref 222), some (ax_i x1), some (ax_i 0), y3]) ⟨_, rfl⟩ rfl rfl rfl (Nat.le_of_ble_eq_true rfl) rfl rfl ?_
    exact h
  · have h := h.2 (Int.not_le.mp hc)
    refine ax_mv 1 164 [some (.ref 222), some (ax_i x1), some (ax_i x2), y3] [.ref 222] rfl ?_
    refine ax_gR (v := .ref 232) (pc' := 167) ⟨_, rfl⟩ fl_12_37 ay_222 rfl rfl ?_
    refine ax_mv 2 169 [some (.ref 222), some (ax_i x1), some (ax_i x2), y3] [ax_i x2, .ref 222, .ref 232] rfl ?_
    refine ax_callI (pc' := 172) ⟨_, rfl⟩ ml_12_457 (rest := [.ref 232]) rfl (fun ss hs => ⟨_, _, ay_222 ss hs⟩) (Nat.le_of_ble_eq_true rfl) rfl rfl h (fun r1 V1 hg1 hr1 h => ?_)
    obtain ⟨o9, h⟩ := h
    refine ax_ild (n := 240) (pc' := 173) ⟨_, rfl⟩ ay_232 (by decide) o9 rfl ?_
    refine ax_mv 1 174 [some (.ref 222), some (ax_i x1), some (ax_i x2), y3] [ax_i 2, ax_i (V1 232 r1)] rfl ?_
    refine ax_if2 (p1 := 191) (p2 := 177) ⟨_, rfl⟩ (by decide) rfl (hg1 _ _) (by decide) (fun hc => ?_) (fun hc => ?_)
    · have h := h.1 hc
      refine ax_mv 2 196 [some (.ref 222), some (ax_i x1), some (ax_i x2), y3] [ax_i 1] rfl ?_
      refine ax_sti (i := 0) (k := 3) (n := 1) (pc' := 197) (L' := [some (.ref 222), some (ax_i x1), some (ax_i x2), some (ax_i 1)]) ⟨_, rfl⟩ rfl rfl rfl (Nat.le_of_ble_eq_true rfl) rfl rfl ?_
      refine ax_mv 1 198 [some (.ref 222), some (ax_i x1), some (ax_i x2), some (ax_i 1)] [ax_i 1] rfl ?_
      refine ax_if (p1 := 224) (p2 := 201) ⟨_, rfl⟩ (by decide) rfl (by decide) (fun hc => absurd hc (by unfold ax_k0; decide)) (fun _ => ?_)
      refine ax_mv 3 204 [some (.ref 222), some (ax_i x1), some (ax_i x2), some (ax_i 1)] [ax_i x2, ax_i x1, .ref 222] rfl ?_
      refine ax_callI (pc' := 207) ⟨_, rfl⟩ ml_12_460 (rest := []) rfl (fun ss hs => ⟨_, _, ay_222 ss hs⟩) (Nat.le_of_ble_eq_true rfl) rfl rfl h (fun r2 V2 hg2 hr2 h => ?_)
      refine ax_if (p1 := 224) (p2 := 210) ⟨_, rfl⟩ (by decide) rfl hr2 (fun hc => ?_) (fun hc => ?_)
      · have h := h.2 hc
        refine ax_inc (x := x2) (pc' := 227) (L' := [some (.ref 222), some (ax_i x1), some (ax_i (x2 + 1)), some (ax_i 1)]) ⟨_, rfl⟩ rfl rfl rfl rfl ?_
        refine ax_mv 1 157 [some (.ref 222), some (ax_i x1), some (ax_i (x2 + 1)), some (ax_i 1)] [] rfl ?_
        exact h
      · have h := h.1 (Classical.not_not.mp hc)
        refine ax_mv 2 212 [some (.ref 222), some (ax_i x1), some (ax_i x2), some (ax_i 1)] [.ref 222, .ref 222] rfl ?_
        refine ax_gR (v := .ref 234) (pc' := 215) ⟨_, rfl⟩ fl_12_43 ay_222 rfl rfl ?_
        refine ax_mv 2 217 [some (.ref 222), some (ax_i x1), some (ax_i x2), some (ax_i 1)] [ax_i x2, .ref 222, .ref 234, .ref 222] rfl ?_
        refine ax_callI (pc' := 220) ⟨_, rfl⟩ ml_12_457 (rest := [.ref 234, .ref 222]) rfl (fun ss hs => ⟨_, _, ay_222 ss hs⟩) (Nat.le_of_ble_eq_true rfl) rfl rfl h (fun r3 V3 hg3 hr3 h => ?_)
        obtain ⟨o10, h⟩ := h
        refine ax_ild (n := 240) (pc' := 221) ⟨_, rfl⟩ ay_234 (by decide) o10 rfl ?_
        refine ax_callN (pc' := 224) ⟨_, rfl⟩ ml_12_433 (rest := []) rfl (fun ss hs => ⟨_, _, ay_222 ss hs⟩) (Nat.le_of_ble_eq_true rfl) rfl rfl h (fun V4 hg4 h => ?_)
        refine ax_inc (x := x2) (pc' := 227) (L' := [some (.ref 222), some (ax_i x1), some (ax_i (x2 + 1)), some (ax_i 1)]) ⟨_, rfl⟩ rfl rfl rfl rfl ?_
        refine ax_mv 1 157 [some (.ref 222), some (ax_i x1), some (ax_i (x2 + 1)), some (ax_i 1)] [] rfl ?_
        exact h
    · have h := h.2 hc
      refine ax_mv 1 178 [some (.ref 222), some (ax_i x1), some (ax_i x2), y3] [.ref 222] rfl ?_
      refine ax_gR (v := .ref 232) (pc' := 181) ⟨_, rfl⟩ fl_12_37 ay_222 rfl rfl ?_
      refine ax_mv 2 183 [some (.ref 222), some (ax_i x1), some (ax_i x2), y3] [ax_i x2, .ref 222, .ref 232] rfl ?_
      refine ax_callI (pc' := 186) ⟨_, rfl⟩ ml_12_457 (rest := [.ref 232]) rfl (fun ss hs => ⟨_, _, ay_222 ss hs⟩) (Nat.le_of_ble_eq_true rfl) rfl rfl h (fun r5 V5 hg5 hr5 h => ?_)
      obtain ⟨o11, h⟩ := h
      refine ax_ild (n := 240) (pc' := 187) ⟨_, rfl⟩ ay_232 (by decide) o11 rfl ?_
      refine ax_mv 1 188 [some (.ref 222), some (ax_i x1), some (ax_i x2), y3] [ax_i 3, ax_i (V5 232 r5)] rfl ?_
      refine ax_if2 (p1 := 195) (p2 := 191) ⟨_, rfl⟩ (by decide) rfl (hg5 _ _) (by decide) (fun hc => ?_) (fun hc => ?_)
      · have h := h.2 hc
        refine ax_mv 1 196 [some (.ref 222), some (ax_i x1), some (ax_i x2), y3] [ax_i 0] rfl ?_
        refine ax_sti (i := 0) (k := 3) (n := 1) (pc' := 197) (L' := [some (.ref 222), some (ax_i x1), some (ax_i x2), some (ax_i 0)]) ⟨_, rfl⟩ rfl rfl rfl (Nat.le_of_ble_eq_true rfl) rfl rfl ?_
        refine ax_mv 1 198 [some (.ref 222), some (ax_i x1), some (ax_i x2), some (ax_i 0)] [ax_i 0] rfl ?_
        refine ax_if (p1 := 224) (p2 := 201) ⟨_, rfl⟩ (by decide) rfl (by decide) (fun _ => ?_) (fun hc => absurd (by unfold ax_k0; decide) hc)
        refine ax_inc (x := x2) (pc' := 227) (L' := [some (.ref 222), some (ax_i x1), some (ax_i (x2 + 1)), some (ax_i 0)]) ⟨_, rfl⟩ rfl rfl rfl rfl ?_
        refine ax_mv 1 157 [some (.ref 222), some (ax_i x1), some (ax_i (x2 + 1)), some (ax_i 0)] [] rfl ?_
        exact h
      · have h := h.1 (Classical.not_not.mp hc)
        refine ax_mv 2 196 [some (.ref 222), some (ax_i x1), some (ax_i x2), y3] [ax_i 1] rfl ?_
        refine ax_sti (i := 0) (k := 3) (n := 1) (pc' := 197) (L' := [some (.ref 222), some (ax_i x1), some (ax_i x2), some (ax_i 1)]) ⟨_, rfl⟩ rfl rfl rfl (Nat.le_of_ble_eq_true rfl) rfl rfl ?_
        refine ax_mv 1 198 [some (.ref 222), some (ax_i x1), some (ax_i x2), some (ax_i 1)] [ax_i 1] rfl ?_
        refine ax_if (p1 := 224) (p2 := 201) ⟨_, rfl⟩ (by decide) rfl (by decide) (fun hc => absurd hc (by unfold ax_k0; decide)) (fun _ => ?_)
        refine ax_mv 3 204 [some (.ref 222), some (ax_i x1), some (ax_i x2), some (ax_i 1)] [ax_i x2, ax_i x1, .ref 222] rfl ?_
        refine ax_callI (pc' := 207) ⟨_, rfl⟩ ml_12_460 (rest := []) rfl (fun ss hs => ⟨_, _, ay_222 ss hs⟩) (Nat.le_of_ble_eq_true rfl) rfl rfl h (fun r6 V6 hg6 hr6 h => ?_)
        refine ax_if (p1 := 224) (p2 := 210) ⟨_, rfl⟩ (by decide) rfl hr6 (fun hc => ?_) (fun hc => ?_)
        · have h := h.2 hc
          refine ax_inc (x := x2) (pc' := 227) (L' := [some (.ref 222), some (ax_i x1), some (ax_i (x2 + 1)), some (ax_i 1)]) ⟨_, rfl⟩ rfl rfl rfl rfl ?_
          refine ax_mv 1 157 [some (.ref 222), some (ax_i x1), some (ax_i (x2 + 1)), some (ax_i 1)] [] rfl ?_
          exact h
        · have h := h.1 (Classical.not_not.mp hc)
          refine ax_mv 2 212 [some (.ref 222), some (ax_i x1), some (ax_i x2), some (ax_i 1)] [.ref 222, .ref 222] rfl ?_
          refine ax_gR (v := .ref 234) (pc' := 215) ⟨_, rfl⟩ fl_12_43 ay_222 rfl rfl ?_
          refine ax_mv 2 217 [some (.ref 222), some (ax_i x1), some (ax_i x2), some (ax_i 1)] [ax_i x2, .ref 222, .ref 234, .ref 222] rfl ?_
          refine ax_callI (pc' := 220) ⟨_, rfl⟩ ml_12_457 (rest := [.ref 234, .ref 222]) rfl (fun ss hs => ⟨_, _, ay_222 ss hs⟩) (Nat.le_of_ble_eq_true rfl) rfl rfl h (fun r7 V7 hg7 hr7 h => ?_)
          obtain ⟨o12, h⟩ := h
          refine ax_ild (n := 240) (pc' := 221) ⟨_, rfl⟩ ay_234 (by decide) o12 rfl ?_
          refine ax_callN (pc' := 224) ⟨_, rfl⟩ ml_12_433 (rest := []) rfl (fun ss hs => ⟨_, _, ay_222 ss hs⟩) (Nat.le_of_ble_eq_true rfl) rfl rfl h (fun V8 hg8 h => ?_)
          refine ax_inc (x := x2) (pc' := 227) (L' := [some (.ref 222), some (ax_i x1), some (ax_i (x2 + 1)), some (ax_i 1)]) ⟨_, rfl⟩ rfl rfl rfl rfl ?_
          refine ax_mv 1 157 [some (.ref 222), some (ax_i x1), some (ax_i (x2 + 1)), some (ax_i 1)] [] rfl ?_
          exact h
set_option maxRecDepth 20000 in
theorem r_Model_checkNames_232 {d : Nat} {V : ax_V} {Φ : ax_V → Prop} {Θ : ax_V → Prop} {x1 : Int} {x2 : Int} {y3 : Option Value} (hg : ax_g V) (hx1 : ax_rg x1) (hx2 : ax_rg x2) (hy3 : ax_y y3) (h : ((V 222 55 ≤ x2 → Φ V) ∧ (x2 < V 222 55 → (0 ≤ x2 ∧ x2 < 351) ∧ ((V 267 x2 = x1 → ax_N ay_lay d q_Model_checkStates [.ref 222, ax_i x2] V (fun V1 => k_Model_checkNames_232 d x1 (x2 + 1) y3 V1 Φ Θ) Θ) ∧ (¬ V 267 x2 = x1 → k_Model_checkNames_232 d x1 (x2 + 1) y3 V Φ Θ))))) : k_Model_checkNames_232 d x1 x2 y3 V Φ Θ := by
  refine ax_mv 2 234 [some (.ref 222), some (ax_i x1), some (ax_i x2), y3] [.ref 222, ax_i x2] rfl ?_
  refine ax_gI (kI := 55) (pc' := 237) ⟨_, rfl⟩ fl_12_423 ay_222 rfl rfl rfl ?_
  refine ax_if2 (p1 := 261) (p2 := 240) ⟨_, rfl⟩ (by decide) rfl hx2 (hg _ _) (fun hc => ?_) (fun hc => ?_)
  · have h := h.1 hc
    exact ax_nret ⟨_, rfl⟩ rfl hg h
  · have h := h.2 (Int.not_le.mp hc)
    refine ax_mv 1 241 [some (.ref 222), some (ax_i x1), some (ax_i x2), y3] [.ref 222] rfl ?_
    refine ax_gR (v := .ref 267) (pc' := 244) ⟨_, rfl⟩ fl_12_143 ay_222 rfl rfl ?_
    refine ax_mv 1 245 [some (.ref 222), some (ax_i x1), some (ax_i x2), y3] [ax_i x2, .ref 267] rfl ?_
    obtain ⟨o13, h⟩ := h
    refine ax_ild (n := 351) (pc' := 246) ⟨_, rfl⟩ ay_267 (by decide) o13 rfl ?_
    refine ax_mv 1 247 [some (.ref 222), some (ax_i x1), some (ax_i x2), y3] [ax_i x1, ax_i (V 267 x2)] rfl ?_
    refine ax_if2 (p1 := 255) (p2 := 250) ⟨_, rfl⟩ (by decide) rfl (hg _ _) hx1 (fun hc => ?_) (fun hc => ?_)
    · have h := h.2 hc
      refine ax_inc (x := x2) (pc' := 258) (L' := [some (.ref 222), some (ax_i x1), some (ax_i (x2 + 1)), y3]) ⟨_, rfl⟩ rfl rfl rfl rfl ?_
      refine ax_mv 1 232 [some (.ref 222), some (ax_i x1), some (ax_i (x2 + 1)), y3] [] rfl ?_
      exact h
    · have h := h.1 (Classical.not_not.mp hc)
      refine ax_mv 2 252 [some (.ref 222), some (ax_i x1), some (ax_i x2), y3] [ax_i x2, .ref 222] rfl ?_
      refine ax_callN (pc' := 255) ⟨_, rfl⟩ ml_12_463 (rest := []) rfl (fun ss hs => ⟨_, _, ay_222 ss hs⟩) (Nat.le_of_ble_eq_true rfl) rfl rfl h (fun V1 hg1 h => ?_)
      refine ax_inc (x := x2) (pc' := 258) (L' := [some (.ref 222), some (ax_i x1), some (ax_i (x2 + 1)), y3]) ⟨_, rfl⟩ rfl rfl rfl rfl ?_
      refine ax_mv 1 232 [some (.ref 222), some (ax_i x1), some (ax_i (x2 + 1)), y3] [] rfl ?_
      exact h
set_option maxRecDepth 20000 in
theorem r_Model_checkNames {d : Nat} {V : ax_V} {Φ : ax_V → Prop} {Θ : ax_V → Prop} {x1 : Int} (hg : ax_g V) (hx1 : ax_rg x1) (h : (∀ V1, V1 = ax_u V 222 10 x1 → k_Model_checkNames_7 d x1 0 none V1 Φ Θ)) : ax_N ay_lay (d + 1) q_Model_checkNames [.ref 222, ax_i x1] V Φ Θ := by
  refine ax_T.of (M := m_Model_checkNames) rfl (Nat.le_of_ble_eq_true rfl) ?_
  refine ax_mv 0 0 [some (.ref 222), some (ax_i x1), none, none] [] rfl ?_
  refine ax_mv 2 2 [some (.ref 222), some (ax_i x1), none, none] [ax_i x1, .ref 222] rfl ?_
  obtain ⟨V1, eV1⟩ : ∃ W9 : ax_V, W9 = ax_u V 222 10 x1 := ⟨_, rfl⟩
  have h := h V1 eV1
  have hg1 : ax_g V1 := eV1 ▸ ax_u_g hg hx1
  refine ax_pI (kI := 10) (pc' := 5) ⟨_, rfl⟩ fl_12_320 ay_ok ay_222 rfl rfl rfl rfl eV1 rfl ?_
  refine ax_mv 1 6 [some (.ref 222), some (ax_i x1), none, none] [ax_i 0] rfl ?_
  refine ax_sti (i := 0) (k := 2) (n := 1) (pc' := 7) (L' := [some (.ref 222), some (ax_i x1), some (ax_i 0), none]) ⟨_, rfl⟩ rfl rfl rfl (Nat.le_of_ble_eq_true rfl) rfl rfl ?_
  exact h
theorem r_Model_needTruth {d : Nat} {V : ax_V} {Φ : ax_V → Prop} {Θ : ax_V → Prop} {x1 : Int} {x2 : Int} (hg : ax_g V) (hx1 : ax_rg x1) (hx2 : ax_rg x2) (h : ax_I ay_lay d q_Model_at [.ref 222, ax_i x1] V (fun r1 V1 => (0 ≤ r1 ∧ r1 < 240) ∧ ((V1 232 r1 = 0 → ax_N ay_lay d q_Model_note [.ref 222, ax_i x2] V1 (fun V2 => Φ V2) Θ) ∧ (¬ V1 232 r1 = 0 → ax_I ay_lay d q_Model_at [.ref 222, ax_i x1] V1 (fun r3 V3 => (0 ≤ r3 ∧ r3 < 240) ∧ ((V3 233 r3 = 0 → ax_N ay_lay d q_Model_note [.ref 222, ax_i x2] V3 (fun V4 => Φ V4) Θ) ∧ (¬ V3 233 r3 = 0 → Φ V3))) Θ))) Θ) : ax_N ay_lay (d + 1) q_Model_needTruth [.ref 222, ax_i x1, ax_i x2] V Φ Θ := by
  refine ax_T.of (M := m_Model_needTruth) rfl (Nat.le_of_ble_eq_true rfl) ?_
  refine ax_mv 0 0 [some (.ref 222), some (ax_i x1), some (ax_i x2)] [] rfl ?_
  refine ax_mv 1 1 [some (.ref 222), some (ax_i x1), some (ax_i x2)] [.ref 222] rfl ?_
  refine ax_gR (v := .ref 232) (pc' := 4) ⟨_, rfl⟩ fl_12_37 ay_222 rfl rfl ?_
  refine ax_mv 2 6 [some (.ref 222), some (ax_i x1), some (ax_i x2)] [ax_i x1, .ref 222, .ref 232] rfl ?_
  refine ax_callI (pc' := 9) ⟨_, rfl⟩ ml_12_457 (rest := [.ref 232]) rfl (fun ss hs => ⟨_, _, ay_222 ss hs⟩) (Nat.le_of_ble_eq_true rfl) rfl rfl h (fun r1 V1 hg1 hr1 h => ?_)
  obtain ⟨o1, h⟩ := h
  refine ax_ild (n := 240) (pc' := 10) ⟨_, rfl⟩ ay_232 (by decide) o1 rfl ?_
  refine ax_if (p1 := 26) (p2 := 13) ⟨_, rfl⟩ (by decide) rfl (hg1 _ _) (fun hc => ?_) (fun hc => ?_)
  · have h := h.1 hc
    refine ax_mv 2 28 [some (.ref 222), some (ax_i x1), some (ax_i x2)] [ax_i x2, .ref 222] rfl ?_
    refine ax_callN (pc' := 31) ⟨_, rfl⟩ ml_12_433 (rest := []) rfl (fun ss hs => ⟨_, _, ay_222 ss hs⟩) (Nat.le_of_ble_eq_true rfl) rfl rfl h (fun V2 hg2 h => ?_)
    exact ax_nret ⟨_, rfl⟩ rfl hg2 h
  · have h := h.2 hc
    refine ax_mv 1 14 [some (.ref 222), some (ax_i x1), some (ax_i x2)] [.ref 222] rfl ?_
    refine ax_gR (v := .ref 233) (pc' := 17) ⟨_, rfl⟩ fl_12_40 ay_222 rfl rfl ?_
    refine ax_mv 2 19 [some (.ref 222), some (ax_i x1), some (ax_i x2)] [ax_i x1, .ref 222, .ref 233] rfl ?_
    refine ax_callI (pc' := 22) ⟨_, rfl⟩ ml_12_457 (rest := [.ref 233]) rfl (fun ss hs => ⟨_, _, ay_222 ss hs⟩) (Nat.le_of_ble_eq_true rfl) rfl rfl h (fun r3 V3 hg3 hr3 h => ?_)
    obtain ⟨o2, h⟩ := h
    refine ax_ild (n := 240) (pc' := 23) ⟨_, rfl⟩ ay_233 (by decide) o2 rfl ?_
    refine ax_if (p1 := 31) (p2 := 26) ⟨_, rfl⟩ (by decide) rfl (hg3 _ _) (fun hc => ?_) (fun hc => ?_)
    · have h := h.2 hc
      exact ax_nret ⟨_, rfl⟩ rfl hg3 h
    · have h := h.1 (Classical.not_not.mp hc)
      refine ax_mv 2 28 [some (.ref 222), some (ax_i x1), some (ax_i x2)] [ax_i x2, .ref 222] rfl ?_
      refine ax_callN (pc' := 31) ⟨_, rfl⟩ ml_12_433 (rest := []) rfl (fun ss hs => ⟨_, _, ay_222 ss hs⟩) (Nat.le_of_ble_eq_true rfl) rfl rfl h (fun V4 hg4 h => ?_)
      exact ax_nret ⟨_, rfl⟩ rfl hg4 h
abbrev k_Model_checkPart_155 (d : Nat) (x1 : Int) (x2 : Int) (V : ax_V) (Φ : ax_V → Prop) (Θ : ax_V → Prop) : Prop := ax_R ay_lay ax_t d m_Model_checkPart 155 [some (.ref 222), some (ax_i x1), some (ax_i x2)] [] V (ax_Nr Φ) Θ
set_option maxRecDepth 20000 in
theorem r_Model_checkPart_155 {d : Nat} {V : ax_V} {Φ : ax_V → Prop} {Θ : ax_V → Prop} {x1 : Int} {x2 : Int} (hg : ax_g V) (hx1 : ax_rg x1) (hx2 : ax_rg x2) (h : ((x2 < 0 → (0 ≤ x1 ∧ x1 < 701) ∧ ((V 251 x1 = -1 → (0 ≤ x1 ∧ x1 < 701) ∧ ax_N ay_lay d q_Model_note [.ref 222, ax_i (V 243 x1)] V (fun V2 => (0 ≤ x1 ∧ x1 < 701) ∧ ((V2 248 x1 = -1 → Φ V2) ∧ (¬ V2 248 x1 = -1 → (0 ≤ x1 ∧ x1 < 701) ∧ (0 ≤ x1 ∧ x1 < 701) ∧ ax_N ay_lay d q_Model_needTruth [.ref 222, ax_i (V2 248 x1), ax_i (V2 244 x1)] V2 (fun V3 => Φ V3) Θ))) Θ) ∧ (¬ V 251 x1 = -1 → (0 ≤ x1 ∧ x1 < 701) ∧ ((V 248 x1 = -1 → Φ V) ∧ (¬ V 248 x1 = -1 → (0 ≤ x1 ∧ x1 < 701) ∧ (0 ≤ x1 ∧ x1 < 701) ∧ ax_N ay_lay d q_Model_needTruth [.ref 222, ax_i (V 248 x1), ax_i (V 244 x1)] V (fun V1 => Φ V1) Θ))))) ∧ (0 ≤ x2 → (0 ≤ x2 ∧ x2 < 9) ∧ (0 ≤ x1 ∧ x1 < 701) ∧ ((V 226 x2 = V 249 x1 → (0 ≤ x1 ∧ x1 < 701) ∧ (∀ V4, V4 = ax_u V 251 x1 x2 → k_Model_checkPart_155 d x1 (x2 + (-1)) V4 Φ Θ)) ∧ (¬ V 226 x2 = V 249 x1 → k_Model_checkPart_155 d x1 (x2 + (-1)) V Φ Θ))))) : k_Model_checkPart_155 d x1 x2 V Φ Θ := by
  refine ax_mv 1 156 [some (.ref 222), some (ax_i x1), some (ax_i x2)] [ax_i x2] rfl ?_
  refine ax_if (p1 := 187) (p2 := 159) ⟨_, rfl⟩ (by decide) rfl hx2 (fun hc => ?_) (fun hc => ?_)
  · have h := h.1 hc
    refine ax_mv 1 188 [some (.ref 222), some (ax_i x1), some (ax_i x2)] [.ref 222] rfl ?_
    refine ax_gR (v := .ref 251) (pc' := 191) ⟨_, rfl⟩ fl_12_95 ay_222 rfl rfl ?_
    refine ax_mv 1 192 [some (.ref 222), some (ax_i x1), some (ax_i x2)] [ax_i x1, .ref 251] rfl ?_
    obtain ⟨o1, h⟩ := h
    refine ax_ild (n := 701) (pc' := 193) ⟨_, rfl⟩ ay_251 (by decide) o1 rfl ?_
    refine ax_mv 1 194 [some (.ref 222), some (ax_i x1), some (ax_i x2)] [ax_i (-1), ax_i (V 251 x1)] rfl ?_
    refine ax_if2 (p1 := 207) (p2 := 197) ⟨_, rfl⟩ (by decide) rfl (hg _ _) (by decide) (fun hc => ?_) (fun hc => ?_)
    · have h := h.2 hc
      refine ax_mv 1 208 [some (.ref 222), some (ax_i x1), some (ax_i x2)] [.ref 222] rfl ?_
      refine ax_gR (v := .ref 248) (pc' := 211) ⟨_, rfl⟩ fl_12_86 ay_222 rfl rfl ?_
      refine ax_mv 1 212 [some (.ref 222), some (ax_i x1), some (ax_i x2)] [ax_i x1, .ref 248] rfl ?_
      obtain ⟨o2, h⟩ := h
      refine ax_ild (n := 701) (pc' := 213) ⟨_, rfl⟩ ay_248 (by decide) o2 rfl ?_
      refine ax_mv 1 214 [some (.ref 222), some (ax_i x1), some (ax_i x2)] [ax_i (-1), ax_i (V 248 x1)] rfl ?_
      refine ax_if2 (p1 := 236) (p2 := 217) ⟨_, rfl⟩ (by decide) rfl (hg _ _) (by decide) (fun hc => ?_) (fun hc => ?_)
      · have h := h.1 hc
        exact ax_nret ⟨_, rfl⟩ rfl hg h
      · have h := h.2 hc
        refine ax_mv 2 219 [some (.ref 222), some (ax_i x1), some (ax_i x2)] [.ref 222, .ref 222] rfl ?_
        refine ax_gR (v := .ref 248) (pc' := 222) ⟨_, rfl⟩ fl_12_86 ay_222 rfl rfl ?_
        refine ax_mv 1 223 [some (.ref 222), some (ax_i x1), some (ax_i x2)] [ax_i x1, .ref 248, .ref 222] rfl ?_
        obtain ⟨o3, h⟩ := h
        refine ax_ild (n := 701) (pc' := 224) ⟨_, rfl⟩ ay_248 (by decide) o3 rfl ?_
        refine ax_mv 1 225 [some (.ref 222), some (ax_i x1), some (ax_i x2)] [.ref 222, ax_i (V 248 x1), .ref 222] rfl ?_
        refine ax_gR (v := .ref 244) (pc' := 228) ⟨_, rfl⟩ fl_12_74 ay_222 rfl rfl ?_
        refine ax_mv 1 229 [some (.ref 222), some (ax_i x1), some (ax_i x2)] [ax_i x1, .ref 244, ax_i (V 248 x1), .ref 222] rfl ?_
        obtain ⟨o4, h⟩ := h
        refine ax_ild (n := 701) (pc' := 230) ⟨_, rfl⟩ ay_244 (by decide) o4 rfl ?_
        refine ax_callN (pc' := 233) ⟨_, rfl⟩ ml_12_447 (rest := []) rfl (fun ss hs => ⟨_, _, ay_222 ss hs⟩) (Nat.le_of_ble_eq_true rfl) rfl rfl h (fun V1 hg1 h => ?_)
        refine ax_mv 1 236 [some (.ref 222), some (ax_i x1), some (ax_i x2)] [] rfl ?_
        exact ax_nret ⟨_, rfl⟩ rfl hg1 h
    · have h := h.1 (Classical.not_not.mp hc)
      refine ax_mv 2 199 [some (.ref 222), some (ax_i x1), some (ax_i x2)] [.ref 222, .ref 222] rfl ?_
      refine ax_gR (v := .ref 243) (pc' := 202) ⟨_, rfl⟩ fl_12_71 ay_222 rfl rfl ?_
      refine ax_mv 1 203 [some (.ref 222), some (ax_i x1), some (ax_i x2)] [ax_i x1, .ref 243, .ref 222] rfl ?_
      obtain ⟨o5, h⟩ := h
      refine ax_ild (n := 701) (pc' := 204) ⟨_, rfl⟩ ay_243 (by decide) o5 rfl ?_
      refine ax_callN (pc' := 207) ⟨_, rfl⟩ ml_12_433 (rest := []) rfl (fun ss hs => ⟨_, _, ay_222 ss hs⟩) (Nat.le_of_ble_eq_true rfl) rfl rfl h (fun V2 hg2 h => ?_)
      refine ax_mv 1 208 [some (.ref 222), some (ax_i x1), some (ax_i x2)] [.ref 222] rfl ?_
      refine ax_gR (v := .ref 248) (pc' := 211) ⟨_, rfl⟩ fl_12_86 ay_222 rfl rfl ?_
      refine ax_mv 1 212 [some (.ref 222), some (ax_i x1), some (ax_i x2)] [ax_i x1, .ref 248] rfl ?_
      obtain ⟨o6, h⟩ := h
      refine ax_ild (n := 701) (pc' := 213) ⟨_, rfl⟩ ay_248 (by decide) o6 rfl ?_
      refine ax_mv 1 214 [some (.ref 222), some (ax_i x1), some (ax_i x2)] [ax_i (-1), ax_i (V2 248 x1)] rfl ?_
      refine ax_if2 (p1 := 236) (p2 := 217) ⟨_, rfl⟩ (by decide) rfl (hg2 _ _) (by decide) (fun hc => ?_) (fun hc => ?_)
      · have h := h.1 hc
        exact ax_nret ⟨_, rfl⟩ rfl hg2 h
      · have h := h.2 hc
        refine ax_mv 2 219 [some (.ref 222), some (ax_i x1), some (ax_i x2)] [.ref 222, .ref 222] rfl ?_
        refine ax_gR (v := .ref 248) (pc' := 222) ⟨_, rfl⟩ fl_12_86 ay_222 rfl rfl ?_
        refine ax_mv 1 223 [some (.ref 222), some (ax_i x1), some (ax_i x2)] [ax_i x1, .ref 248, .ref 222] rfl ?_
        obtain ⟨o7, h⟩ := h
        refine ax_ild (n := 701) (pc' := 224) ⟨_, rfl⟩ ay_248 (by decide) o7 rfl ?_
        refine ax_mv 1 225 [some (.ref 222), some (ax_i x1), some (ax_i x2)] [.ref 222, ax_i (V2 248 x1), .ref 222] rfl ?_
        refine ax_gR (v := .ref 244) (pc' := 228) ⟨_, rfl⟩ fl_12_74 ay_222 rfl rfl ?_
        refine ax_mv 1 229 [some (.ref 222), some (ax_i x1), some (ax_i x2)] [ax_i x1, .ref 244, ax_i (V2 248 x1), .ref 222] rfl ?_
        obtain ⟨o8, h⟩ := h
        refine ax_ild (n := 701) (pc' := 230) ⟨_, rfl⟩ ay_244 (by decide) o8 rfl ?_
        refine ax_callN (pc' := 233) ⟨_, rfl⟩ ml_12_447 (rest := []) rfl (fun ss hs => ⟨_, _, ay_222 ss hs⟩) (Nat.le_of_ble_eq_true rfl) rfl rfl h (fun V3 hg3 h => ?_)
        refine ax_mv 1 236 [some (.ref 222), some (ax_i x1), some (ax_i x2)] [] rfl ?_
        exact ax_nret ⟨_, rfl⟩ rfl hg3 h
  · have h := h.2 (Int.not_lt.mp hc)
    refine ax_mv 1 160 [some (.ref 222), some (ax_i x1), some (ax_i x2)] [.ref 222] rfl ?_
    refine ax_gR (v := .ref 226) (pc' := 163) ⟨_, rfl⟩ fl_12_19 ay_222 rfl rfl ?_
    refine ax_mv 1 164 [some (.ref 222), some (ax_i x1), some (ax_i x2)] [ax_i x2, .ref 226] rfl ?_
    obtain ⟨o9, h⟩ := h
    refine ax_ild (n := 9) (pc' := 165) ⟨_, rfl⟩ ay_226 (by decide) o9 rfl ?_
    refine ax_mv 1 166 [some (.ref 222), some (ax_i x1), some (ax_i x2)] [.ref 222, ax_i (V 226 x2)] rfl ?_
    refine ax_gR (v := .ref 249) (pc' := 169) ⟨_, rfl⟩ fl_12_89 ay_222 rfl rfl ?_
    refine ax_mv 1 170 [some (.ref 222), some (ax_i x1), some (ax_i x2)] [ax_i x1, .ref 249, ax_i (V 226 x2)] rfl ?_
    obtain ⟨o10, h⟩ := h
    refine ax_ild (n := 701) (pc' := 171) ⟨_, rfl⟩ ay_249 (by decide) o10 rfl ?_
    refine ax_if2 (p1 := 181) (p2 := 174) ⟨_, rfl⟩ (by decide) rfl (hg _ _) (hg _ _) (fun hc => ?_) (fun hc => ?_)
    · have h := h.2 hc
      refine ax_inc (x := x2) (pc' := 184) (L' := [some (.ref 222), some (ax_i x1), some (ax_i (x2 + (-1)))]) ⟨_, rfl⟩ rfl rfl rfl rfl ?_
      refine ax_mv 1 155 [some (.ref 222), some (ax_i x1), some (ax_i (x2 + (-1)))] [] rfl ?_
      exact h
    · have h := h.1 (Classical.not_not.mp hc)
      refine ax_mv 1 175 [some (.ref 222), some (ax_i x1), some (ax_i x2)] [.ref 222] rfl ?_
      refine ax_gR (v := .ref 251) (pc' := 178) ⟨_, rfl⟩ fl_12_95 ay_222 rfl rfl ?_
      refine ax_mv 2 180 [some (.ref 222), some (ax_i x1), some (ax_i x2)] [ax_i x2, ax_i x1, .ref 251] rfl ?_
      obtain ⟨o11, h⟩ := h
      obtain ⟨V4, eV4⟩ : ∃ W9 : ax_V, W9 = ax_u V 251 x1 x2 := ⟨_, rfl⟩
      have h := h V4 eV4
      have hg4 : ax_g V4 := eV4 ▸ ax_u_g hg hx2
      refine ax_ist (n := 701) (pc' := 181) ⟨_, rfl⟩ ay_ok ay_251 (by decide) o11 eV4 rfl ?_
      refine ax_inc (x := x2) (pc' := 184) (L' := [some (.ref 222), some (ax_i x1), some (ax_i (x2 + (-1)))]) ⟨_, rfl⟩ rfl rfl rfl rfl ?_
      refine ax_mv 1 155 [some (.ref 222), some (ax_i x1), some (ax_i (x2 + (-1)))] [] rfl ?_
      exact h
set_option maxRecDepth 20000 in
theorem r_Model_checkPart {d : Nat} {V : ax_V} {Φ : ax_V → Prop} {Θ : ax_V → Prop} {x1 : Int} (hg : ax_g V) (hx1 : ax_rg x1) (h : (0 ≤ x1 ∧ x1 < 701) ∧ ((V 241 x1 = 2 → (0 ≤ x1 ∧ x1 < 701) ∧ (0 ≤ x1 ∧ x1 < 701) ∧ ax_N ay_lay d q_Model_needLetter [.ref 222, ax_i (V 248 x1), ax_i (V 244 x1)] V (fun V1 => Φ V1) Θ) ∧ (V 241 x1 = 3 → (0 ≤ x1 ∧ x1 < 701) ∧ (0 ≤ x1 ∧ x1 < 701) ∧ ax_N ay_lay d q_Model_needLetter [.ref 222, ax_i (V 248 x1), ax_i (V 244 x1)] V (fun V2 => (0 ≤ x1 ∧ x1 < 701) ∧ ax_I ay_lay d q_Model_at [.ref 222, ax_i (V2 248 x1)] V2 (fun r3 V3 => (0 ≤ r3 ∧ r3 < 240) ∧ ((V3 236 r3 = 0 → (0 ≤ x1 ∧ x1 < 701) ∧ ax_N ay_lay d q_Model_note [.ref 222, ax_i (V3 244 x1)] V3 (fun V4 => Φ V4) Θ) ∧ (¬ V3 236 r3 = 0 → Φ V3))) Θ) Θ) ∧ ((V 241 x1 = 20 ∨ V 241 x1 = 21) → (0 ≤ x1 ∧ x1 < 701) ∧ (0 ≤ x1 ∧ x1 < 701) ∧ ax_N ay_lay d q_Model_needTruth [.ref 222, ax_i (V 248 x1), ax_i (V 244 x1)] V (fun V5 => Φ V5) Θ) ∧ (V 241 x1 = 22 → (0 ≤ x1 ∧ x1 < 701) ∧ (∀ V6, V6 = ax_u V 251 x1 (-1) → k_Model_checkPart_155 d x1 ((V6 222 10) - 1) V6 Φ Θ)) ∧ (¬ V 241 x1 = 2 → ¬ V 241 x1 = 3 → ¬ V 241 x1 = 20 → ¬ V 241 x1 = 21 → ¬ V 241 x1 = 22 → Φ V))) : ax_N ay_lay (d + 1) q_Model_checkPart [.ref 222, ax_i x1] V Φ Θ := by
  refine ax_T.of (M := m_Model_checkPart) rfl (Nat.le_of_ble_eq_true rfl) ?_
  refine ax_mv 0 0 [some (.ref 222), some (ax_i x1), none] [] rfl ?_
  refine ax_mv 1 1 [some (.ref 222), some (ax_i x1), none] [.ref 222] rfl ?_
  refine ax_gR (v := .ref 241) (pc' := 4) ⟨_, rfl⟩ fl_12_65 ay_222 rfl rfl ?_
  refine ax_mv 1 5 [some (.ref 222), some (ax_i x1), none] [ax_i x1, .ref 241] rfl ?_
  obtain ⟨o12, h⟩ := h
  refine ax_ild (n := 701) (pc' := 6) ⟨_, rfl⟩ ay_241 (by decide) o12 rfl ?_
  have t0 : (V 241 x1 = 2) → ax_R ay_lay ax_t d m_Model_checkPart 56 [some (.ref 222), some (ax_i x1), none] [] V (ax_Nr Φ) Θ := fun hk => by
    have h := h.1 hk
    refine ax_mv 2 58 [some (.ref 222), some (ax_i x1), none] [.ref 222, .ref 222] rfl ?_
    refine ax_gR (v := .ref 248) (pc' := 61) ⟨_, rfl⟩ fl_12_86 ay_222 rfl rfl ?_
    refine ax_mv 1 62 [some (.ref 222), some (ax_i x1), none] [ax_i x1, .ref 248, .ref 222] rfl ?_
    obtain ⟨o13, h⟩ := h
    refine ax_ild (n := 701) (pc' := 63) ⟨_, rfl⟩ ay_248 (by decide) o13 rfl ?_
    refine ax_mv 1 64 [some (.ref 222), some (ax_i x1), none] [.ref 222, ax_i (V 248 x1), .ref 222] rfl ?_
    refine ax_gR (v := .ref 244) (pc' := 67) ⟨_, rfl⟩ fl_12_74 ay_222 rfl rfl ?_
    refine ax_mv 1 68 [some (.ref 222), some (ax_i x1), none] [ax_i x1, .ref 244, ax_i (V 248 x1), .ref 222] rfl ?_
    obtain ⟨o14, h⟩ := h
    refine ax_ild (n := 701) (pc' := 69) ⟨_, rfl⟩ ay_244 (by decide) o14 rfl ?_
    refine ax_callN (pc' := 72) ⟨_, rfl⟩ ml_12_466 (rest := []) rfl (fun ss hs => ⟨_, _, ay_222 ss hs⟩) (Nat.le_of_ble_eq_true rfl) rfl rfl h (fun V1 hg1 h => ?_)
    refine ax_mv 1 236 [some (.ref 222), some (ax_i x1), none] [] rfl ?_
    exact ax_nret ⟨_, rfl⟩ rfl hg1 h
  have t1 : (V 241 x1 = 3) → ax_R ay_lay ax_t d m_Model_checkPart 75 [some (.ref 222), some (ax_i x1), none] [] V (ax_Nr Φ) Θ := fun hk => by
    have h := h.2.1 hk
    refine ax_mv 2 77 [some (.ref 222), some (ax_i x1), none] [.ref 222, .ref 222] rfl ?_
    refine ax_gR (v := .ref 248) (pc' := 80) ⟨_, rfl⟩ fl_12_86 ay_222 rfl rfl ?_
    refine ax_mv 1 81 [some (.ref 222), some (ax_i x1), none] [ax_i x1, .ref 248, .ref 222] rfl ?_
    obtain ⟨o15, h⟩ := h
    refine ax_ild (n := 701) (pc' := 82) ⟨_, rfl⟩ ay_248 (by decide) o15 rfl ?_
    refine ax_mv 1 83 [some (.ref 222), some (ax_i x1), none] [.ref 222, ax_i (V 248 x1), .ref 222] rfl ?_
    refine ax_gR (v := .ref 244) (pc' := 86) ⟨_, rfl⟩ fl_12_74 ay_222 rfl rfl ?_
    refine ax_mv 1 87 [some (.ref 222), some (ax_i x1), none] [ax_i x1, .ref 244, ax_i (V 248 x1), .ref 222] rfl ?_
    obtain ⟨o16, h⟩ := h
    refine ax_ild (n := 701) (pc' := 88) ⟨_, rfl⟩ ay_244 (by decide) o16 rfl ?_
    refine ax_callN (pc' := 91) ⟨_, rfl⟩ ml_12_466 (rest := []) rfl (fun ss hs => ⟨_, _, ay_222 ss hs⟩) (Nat.le_of_ble_eq_true rfl) rfl rfl h (fun V2 hg2 h => ?_)
    refine ax_mv 1 92 [some (.ref 222), some (ax_i x1), none] [.ref 222] rfl ?_
    refine ax_gR (v := .ref 236) (pc' := 95) ⟨_, rfl⟩ fl_12_49 ay_222 rfl rfl ?_
    refine ax_mv 2 97 [some (.ref 222), some (ax_i x1), none] [.ref 222, .ref 222, .ref 236] rfl ?_
    refine ax_gR (v := .ref 248) (pc' := 100) ⟨_, rfl⟩ fl_12_86 ay_222 rfl rfl ?_
    refine ax_mv 1 101 [some (.ref 222), some (ax_i x1), none] [ax_i x1, .ref 248, .ref 222, .ref 236] rfl ?_
    obtain ⟨o17, h⟩ := h
    refine ax_ild (n := 701) (pc' := 102) ⟨_, rfl⟩ ay_248 (by decide) o17 rfl ?_
    refine ax_callI (pc' := 105) ⟨_, rfl⟩ ml_12_457 (rest := [.ref 236]) rfl (fun ss hs => ⟨_, _, ay_222 ss hs⟩) (Nat.le_of_ble_eq_true rfl) rfl rfl h (fun r3 V3 hg3 hr3 h => ?_)
    obtain ⟨o18, h⟩ := h
    refine ax_bld (n := 240) (pc' := 106) ⟨_, rfl⟩ ay_236 (by decide) o18 rfl ?_
    refine ax_if (p1 := 236) (p2 := 109) ⟨_, rfl⟩ (by decide) rfl (hg3 _ _) (fun hc => ?_) (fun hc => ?_)
    · have h := h.2 hc
      exact ax_nret ⟨_, rfl⟩ rfl hg3 h
    · have h := h.1 (Classical.not_not.mp hc)
      refine ax_mv 2 111 [some (.ref 222), some (ax_i x1), none] [.ref 222, .ref 222] rfl ?_
      refine ax_gR (v := .ref 244) (pc' := 114) ⟨_, rfl⟩ fl_12_74 ay_222 rfl rfl ?_
      refine ax_mv 1 115 [some (.ref 222), some (ax_i x1), none] [ax_i x1, .ref 244, .ref 222] rfl ?_
      obtain ⟨o19, h⟩ := h
      refine ax_ild (n := 701) (pc' := 116) ⟨_, rfl⟩ ay_244 (by decide) o19 rfl ?_
      refine ax_callN (pc' := 119) ⟨_, rfl⟩ ml_12_433 (rest := []) rfl (fun ss hs => ⟨_, _, ay_222 ss hs⟩) (Nat.le_of_ble_eq_true rfl) rfl rfl h (fun V4 hg4 h => ?_)
      refine ax_mv 1 236 [some (.ref 222), some (ax_i x1), none] [] rfl ?_
      exact ax_nret ⟨_, rfl⟩ rfl hg4 h
  have t2 : (V 241 x1 = 20 ∨ V 241 x1 = 21) → ax_R ay_lay ax_t d m_Model_checkPart 122 [some (.ref 222), some (ax_i x1), none] [] V (ax_Nr Φ) Θ := fun hk => by
    have h := h.2.2.1 hk
    refine ax_mv 2 124 [some (.ref 222), some (ax_i x1), none] [.ref 222, .ref 222] rfl ?_
    refine ax_gR (v := .ref 248) (pc' := 127) ⟨_, rfl⟩ fl_12_86 ay_222 rfl rfl ?_
    refine ax_mv 1 128 [some (.ref 222), some (ax_i x1), none] [ax_i x1, .ref 248, .ref 222] rfl ?_
    obtain ⟨o20, h⟩ := h
    refine ax_ild (n := 701) (pc' := 129) ⟨_, rfl⟩ ay_248 (by decide) o20 rfl ?_
    refine ax_mv 1 130 [some (.ref 222), some (ax_i x1), none] [.ref 222, ax_i (V 248 x1), .ref 222] rfl ?_
    refine ax_gR (v := .ref 244) (pc' := 133) ⟨_, rfl⟩ fl_12_74 ay_222 rfl rfl ?_
    refine ax_mv 1 134 [some (.ref 222), some (ax_i x1), none] [ax_i x1, .ref 244, ax_i (V 248 x1), .ref 222] rfl ?_
    obtain ⟨o21, h⟩ := h
    refine ax_ild (n := 701) (pc' := 135) ⟨_, rfl⟩ ay_244 (by decide) o21 rfl ?_
    refine ax_callN (pc' := 138) ⟨_, rfl⟩ ml_12_447 (rest := []) rfl (fun ss hs => ⟨_, _, ay_222 ss hs⟩) (Nat.le_of_ble_eq_true rfl) rfl rfl h (fun V5 hg5 h => ?_)
    refine ax_mv 1 236 [some (.ref 222), some (ax_i x1), none] [] rfl ?_
    exact ax_nret ⟨_, rfl⟩ rfl hg5 h
  have t3 : (V 241 x1 = 22) → ax_R ay_lay ax_t d m_Model_checkPart 141 [some (.ref 222), some (ax_i x1), none] [] V (ax_Nr Φ) Θ := fun hk => by
    have h := h.2.2.2.1 hk
    refine ax_mv 1 142 [some (.ref 222), some (ax_i x1), none] [.ref 222] rfl ?_
    refine ax_gR (v := .ref 251) (pc' := 145) ⟨_, rfl⟩ fl_12_95 ay_222 rfl rfl ?_
    refine ax_mv 2 147 [some (.ref 222), some (ax_i x1), none] [ax_i (-1), ax_i x1, .ref 251] rfl ?_
    obtain ⟨o22, h⟩ := h
    obtain ⟨V6, eV6⟩ : ∃ W9 : ax_V, W9 = ax_u V 251 x1 (-1) := ⟨_, rfl⟩
    have h := h V6 eV6
    have hg6 : ax_g V6 := eV6 ▸ ax_u_g hg (by decide)
    refine ax_ist (n := 701) (pc' := 148) ⟨_, rfl⟩ ay_ok ay_251 (by decide) o22 eV6 rfl ?_
    refine ax_mv 1 149 [some (.ref 222), some (ax_i x1), none] [.ref 222] rfl ?_
    refine ax_gI (kI := 10) (pc' := 152) ⟨_, rfl⟩ fl_12_320 ay_222 rfl rfl rfl ?_
    refine ax_mv 1 153 [some (.ref 222), some (ax_i x1), none] [ax_i 1, ax_i (V6 222 10)] rfl ?_
    refine ax_sub (pc' := 154) ⟨_, rfl⟩ rfl ?_
    refine ax_sti (i := 0) (k := 2) (n := 1) (pc' := 155) (L' := [some (.ref 222), some (ax_i x1), some (ax_i ((V6 222 10) - 1))]) ⟨_, rfl⟩ rfl rfl rfl (Nat.le_of_ble_eq_true rfl) rfl rfl ?_
    exact h
  have tD : ¬ V 241 x1 = 2 → ¬ V 241 x1 = 3 → ¬ V 241 x1 = 20 → ¬ V 241 x1 = 21 → ¬ V 241 x1 = 22 → ax_R ay_lay ax_t d m_Model_checkPart 236 [some (.ref 222), some (ax_i x1), none] [] V (ax_Nr Φ) Θ := fun n0 n1 n2 n3 n4 => by
    have h := h.2.2.2.2 n0 n1 n2 n3 n4
    exact ax_nret ⟨_, rfl⟩ rfl hg h
  by_cases e2 : V 241 x1 = 2
  · exact ax_ls (off := 50) (p1 := 56) ⟨_, rfl⟩ (hg _ _) (by decide) (by rw [e2]; rfl) (by decide) (t0 (e2))
  by_cases e3 : V 241 x1 = 3
  · exact ax_ls (off := 69) (p1 := 75) ⟨_, rfl⟩ (hg _ _) (by decide) (by rw [e3]; rfl) (by decide) (t1 (e3))
  by_cases e20 : V 241 x1 = 20
  · exact ax_ls (off := 116) (p1 := 122) ⟨_, rfl⟩ (hg _ _) (by decide) (by rw [e20]; rfl) (by decide) (t2 (Or.inl e20))
  by_cases e21 : V 241 x1 = 21
  · exact ax_ls (off := 116) (p1 := 122) ⟨_, rfl⟩ (hg _ _) (by decide) (by rw [e21]; rfl) (by decide) (t2 (Or.inr (e21)))
  by_cases e22 : V 241 x1 = 22
  · exact ax_ls (off := 135) (p1 := 141) ⟨_, rfl⟩ (hg _ _) (by decide) (by rw [e22]; rfl) (by decide) (t3 (e22))
  exact ax_ls (off := 230) (p1 := 236) ⟨_, rfl⟩ (hg _ _) (by decide) (by simp [Op.lookupswitch.offset, Ne.symm e2, Ne.symm e3, Ne.symm e20, Ne.symm e21, Ne.symm e22]) (by decide) (tD e2 e3 e20 e21 e22)
theorem r_Model_needLetter {d : Nat} {V : ax_V} {Φ : ax_V → Prop} {Θ : ax_V → Prop} {x1 : Int} {x2 : Int} (hg : ax_g V) (hx1 : ax_rg x1) (hx2 : ax_rg x2) (h : ax_I ay_lay d q_Model_at [.ref 222, ax_i x1] V (fun r1 V1 => (0 ≤ r1 ∧ r1 < 240) ∧ ((V1 232 r1 = 0 → ax_N ay_lay d q_Model_note [.ref 222, ax_i x2] V1 (fun V2 => Φ V2) Θ) ∧ (¬ V1 232 r1 = 0 → Φ V1))) Θ) : ax_N ay_lay (d + 1) q_Model_needLetter [.ref 222, ax_i x1, ax_i x2] V Φ Θ := by
  refine ax_T.of (M := m_Model_needLetter) rfl (Nat.le_of_ble_eq_true rfl) ?_
  refine ax_mv 0 0 [some (.ref 222), some (ax_i x1), some (ax_i x2)] [] rfl ?_
  refine ax_mv 1 1 [some (.ref 222), some (ax_i x1), some (ax_i x2)] [.ref 222] rfl ?_
  refine ax_gR (v := .ref 232) (pc' := 4) ⟨_, rfl⟩ fl_12_37 ay_222 rfl rfl ?_
  refine ax_mv 2 6 [some (.ref 222), some (ax_i x1), some (ax_i x2)] [ax_i x1, .ref 222, .ref 232] rfl ?_
  refine ax_callI (pc' := 9) ⟨_, rfl⟩ ml_12_457 (rest := [.ref 232]) rfl (fun ss hs => ⟨_, _, ay_222 ss hs⟩) (Nat.le_of_ble_eq_true rfl) rfl rfl h (fun r1 V1 hg1 hr1 h => ?_)
  obtain ⟨o1, h⟩ := h
  refine ax_ild (n := 240) (pc' := 10) ⟨_, rfl⟩ ay_232 (by decide) o1 rfl ?_
  refine ax_if (p1 := 18) (p2 := 13) ⟨_, rfl⟩ (by decide) rfl (hg1 _ _) (fun hc => ?_) (fun hc => ?_)
  · have h := h.2 hc
    exact ax_nret ⟨_, rfl⟩ rfl hg1 h
  · have h := h.1 (Classical.not_not.mp hc)
    refine ax_mv 2 15 [some (.ref 222), some (ax_i x1), some (ax_i x2)] [ax_i x2, .ref 222] rfl ?_
    refine ax_callN (pc' := 18) ⟨_, rfl⟩ ml_12_433 (rest := []) rfl (fun ss hs => ⟨_, _, ay_222 ss hs⟩) (Nat.le_of_ble_eq_true rfl) rfl rfl h (fun V2 hg2 h => ?_)
    exact ax_nret ⟨_, rfl⟩ rfl hg2 h
abbrev k_Model_checkLefts_7 (d : Nat) (x1 : Int) (x2 : Int) (y3 : Option Value) (V : ax_V) (Φ : ax_V → Prop) (Θ : ax_V → Prop) : Prop := ax_R ay_lay ax_t d m_Model_checkLefts 7 [some (.ref 222), some (ax_i x1), some (ax_i x2), y3] [] V (ax_Nr Φ) Θ
abbrev k_Model_checkLefts_63 (d : Nat) (x1 : Int) (x2 : Int) (x3 : Int) (V : ax_V) (Φ : ax_V → Prop) (Θ : ax_V → Prop) : Prop := ax_R ay_lay ax_t d m_Model_checkLefts 63 [some (.ref 222), some (ax_i x1), some (ax_i x2), some (ax_i x3)] [] V (ax_Nr Φ) Θ
set_option maxRecDepth 20000 in
theorem r_Model_checkLefts_7 {d : Nat} {V : ax_V} {Φ : ax_V → Prop} {Θ : ax_V → Prop} {x1 : Int} {x2 : Int} {y3 : Option Value} (hg : ax_g V) (hx1 : ax_rg x1) (hx2 : ax_rg x2) (hy3 : ax_y y3) (h : (0 ≤ x1 ∧ x1 < 351) ∧ (0 ≤ x1 ∧ x1 < 351) ∧ ax_rg ((V 259 x1) + (V 260 x1)) ∧ (((V 259 x1) + (V 260 x1) ≤ x2 → Φ V) ∧ (x2 < (V 259 x1) + (V 260 x1) → (0 ≤ x2 ∧ x2 < 701) ∧ ax_I ay_lay d q_Model_at [.ref 222, ax_i (V 265 x2)] V (fun r1 V1 => (0 ≤ r1 ∧ r1 < 240) ∧ ((V1 232 r1 = 0 → k_Model_checkLefts_63 d x1 x2 r1 V1 Φ Θ) ∧ (¬ V1 232 r1 = 0 → (0 ≤ r1 ∧ r1 < 240) ∧ ((V1 232 r1 = 1 → k_Model_checkLefts_63 d x1 x2 r1 V1 Φ Θ) ∧ (¬ V1 232 r1 = 1 → ax_I ay_lay d q_Model_isSecond [.ref 222, ax_i x1, ax_i x2] V1 (fun r2 V2 => ((r2 = 0 → (0 ≤ x1 ∧ x1 < 351) ∧ ((V2 263 x1 = -1 → (0 ≤ r1 ∧ r1 < 240) ∧ (∀ V4, V4 = ax_u V2 238 r1 x1 → k_Model_checkLefts_7 d x1 (x2 + 1) (some (ax_i r1)) V4 Φ Θ)) ∧ (¬ V2 263 x1 = -1 → (0 ≤ x1 ∧ x1 < 351) ∧ (0 ≤ r1 ∧ r1 < 240) ∧ (∀ V3, V3 = ax_u V2 239 r1 (V2 263 x1) → k_Model_checkLefts_7 d x1 (x2 + 1) (some (ax_i r1)) V3 Φ Θ)))) ∧ (¬ r2 = 0 → k_Model_checkLefts_63 d x1 x2 r1 V2 Φ Θ))) Θ))))) Θ))) : k_Model_checkLefts_7 d x1 x2 y3 V Φ Θ := by
  refine ax_mv 2 9 [some (.ref 222), some (ax_i x1), some (ax_i x2), y3] [.ref 222, ax_i x2] rfl ?_
  refine ax_gR (v := .ref 259) (pc' := 12) ⟨_, rfl⟩ fl_12_119 ay_222 rfl rfl ?_
  refine ax_mv 1 13 [some (.ref 222), some (ax_i x1), some (ax_i x2), y3] [ax_i x1, .ref 259, ax_i x2] rfl ?_
  obtain ⟨o1, h⟩ := h
  refine ax_ild (n := 351) (pc' := 14) ⟨_, rfl⟩ ay_259 (by decide) o1 rfl ?_
  refine ax_mv 1 15 [some (.ref 222), some (ax_i x1), some (ax_i x2), y3] [.ref 222, ax_i (V 259 x1), ax_i x2] rfl ?_
  refine ax_gR (v := .ref 260) (pc' := 18) ⟨_, rfl⟩ fl_12_122 ay_222 rfl rfl ?_
  refine ax_mv 1 19 [some (.ref 222), some (ax_i x1), some (ax_i x2), y3] [ax_i x1, .ref 260, ax_i (V 259 x1), ax_i x2] rfl ?_
  obtain ⟨o2, h⟩ := h
  refine ax_ild (n := 351) (pc' := 20) ⟨_, rfl⟩ ay_260 (by decide) o2 rfl ?_
  refine ax_add (pc' := 21) ⟨_, rfl⟩ rfl ?_
  obtain ⟨o3, h⟩ := h
  refine ax_if2 (p1 := 111) (p2 := 24) ⟨_, rfl⟩ (by decide) rfl hx2 o3 (fun hc => ?_) (fun hc => ?_)
  · have h := h.1 hc
    exact ax_nret ⟨_, rfl⟩ rfl hg h
  · have h := h.2 (Int.not_le.mp hc)
    refine ax_mv 2 26 [some (.ref 222), some (ax_i x1), some (ax_i x2), y3] [.ref 222, .ref 222] rfl ?_
    refine ax_gR (v := .ref 265) (pc' := 29) ⟨_, rfl⟩ fl_12_137 ay_222 rfl rfl ?_
    refine ax_mv 1 30 [some (.ref 222), some (ax_i x1), some (ax_i x2), y3] [ax_i x2, .ref 265, .ref 222] rfl ?_
    obtain ⟨o4, h⟩ := h
    refine ax_ild (n := 701) (pc' := 31) ⟨_, rfl⟩ ay_265 (by decide) o4 rfl ?_
    refine ax_callI (pc' := 34) ⟨_, rfl⟩ ml_12_457 (rest := []) rfl (fun ss hs => ⟨_, _, ay_222 ss hs⟩) (Nat.le_of_ble_eq_true rfl) rfl rfl h (fun r1 V1 hg1 hr1 h => ?_)
    refine ax_sti (i := 0) (k := 3) (n := 1) (pc' := 35) (L' := [some (.ref 222), some (ax_i x1), some (ax_i x2), some (ax_i r1)]) ⟨_, rfl⟩ rfl rfl rfl (Nat.le_of_ble_eq_true rfl) rfl rfl ?_
    refine ax_mv 1 36 [some (.ref 222), some (ax_i x1), some (ax_i x2), some (ax_i r1)] [.ref 222] rfl ?_
    refine ax_gR (v := .ref 232) (pc' := 39) ⟨_, rfl⟩ fl_12_37 ay_222 rfl rfl ?_
    refine ax_mv 1 40 [some (.ref 222), some (ax_i x1), some (ax_i x2), some (ax_i r1)] [ax_i r1, .ref 232] rfl ?_
    obtain ⟨o5, h⟩ := h
    refine ax_ild (n := 240) (pc' := 41) ⟨_, rfl⟩ ay_232 (by decide) o5 rfl ?_
    refine ax_if (p1 := 63) (p2 := 44) ⟨_, rfl⟩ (by decide) rfl (hg1 _ _) (fun hc => ?_) (fun hc => ?_)
    · have h := h.1 hc
      exact h
    · have h := h.2 hc
      refine ax_mv 1 45 [some (.ref 222), some (ax_i x1), some (ax_i x2), some (ax_i r1)] [.ref 222] rfl ?_
      refine ax_gR (v := .ref 232) (pc' := 48) ⟨_, rfl⟩ fl_12_37 ay_222 rfl rfl ?_
      refine ax_mv 1 49 [some (.ref 222), some (ax_i x1), some (ax_i x2), some (ax_i r1)] [ax_i r1, .ref 232] rfl ?_
      obtain ⟨o6, h⟩ := h
      refine ax_ild (n := 240) (pc' := 50) ⟨_, rfl⟩ ay_232 (by decide) o6 rfl ?_
      refine ax_mv 1 51 [some (.ref 222), some (ax_i x1), some (ax_i x2), some (ax_i r1)] [ax_i 1, ax_i (V1 232 r1)] rfl ?_
      refine ax_if2 (p1 := 63) (p2 := 54) ⟨_, rfl⟩ (by decide) rfl (hg1 _ _) (by decide) (fun hc => ?_) (fun hc => ?_)
      · have h := h.1 hc
        exact h
      · have h := h.2 hc
        refine ax_mv 3 57 [some (.ref 222), some (ax_i x1), some (ax_i x2), some (ax_i r1)] [ax_i x2, ax_i x1, .ref 222] rfl ?_
        refine ax_callI (pc' := 60) ⟨_, rfl⟩ ml_12_475 (rest := []) rfl (fun ss hs => ⟨_, _, ay_222 ss hs⟩) (Nat.le_of_ble_eq_true rfl) rfl rfl h (fun r2 V2 hg2 hr2 h => ?_)
        refine ax_if (p1 := 73) (p2 := 63) ⟨_, rfl⟩ (by decide) rfl hr2 (fun hc => ?_) (fun hc => ?_)
        · have h := h.1 hc
          refine ax_mv 1 74 [some (.ref 222), some (ax_i x1), some (ax_i x2), some (ax_i r1)] [.ref 222] rfl ?_
          refine ax_gR (v := .ref 263) (pc' := 77) ⟨_, rfl⟩ fl_12_131 ay_222 rfl rfl ?_
          refine ax_mv 1 78 [some (.ref 222), some (ax_i x1), some (ax_i x2), some (ax_i r1)] [ax_i x1, .ref 263] rfl ?_
          obtain ⟨o7, h⟩ := h
          refine ax_ild (n := 351) (pc' := 79) ⟨_, rfl⟩ ay_263 (by decide) o7 rfl ?_
          refine ax_mv 1 80 [some (.ref 222), some (ax_i x1), some (ax_i x2), some (ax_i r1)] [ax_i (-1), ax_i (V2 263 x1)] rfl ?_
          refine ax_if2 (p1 := 93) (p2 := 83) ⟨_, rfl⟩ (by decide) rfl (hg2 _ _) (by decide) (fun hc => ?_) (fun hc => ?_)
          · have h := h.2 hc
            refine ax_mv 1 94 [some (.ref 222), some (ax_i x1), some (ax_i x2), some (ax_i r1)] [.ref 222] rfl ?_
            refine ax_gR (v := .ref 239) (pc' := 97) ⟨_, rfl⟩ fl_12_59 ay_222 rfl rfl ?_
            refine ax_mv 2 99 [some (.ref 222), some (ax_i x1), some (ax_i x2), some (ax_i r1)] [.ref 222, ax_i r1, .ref 239] rfl ?_
            refine ax_gR (v := .ref 263) (pc' := 102) ⟨_, rfl⟩ fl_12_131 ay_222 rfl rfl ?_
            refine ax_mv 1 103 [some (.ref 222), some (ax_i x1), some (ax_i x2), some (ax_i r1)] [ax_i x1, .ref 263, ax_i r1, .ref 239] rfl ?_
            obtain ⟨o8, h⟩ := h
            refine ax_ild (n := 351) (pc' := 104) ⟨_, rfl⟩ ay_263 (by decide) o8 rfl ?_
            obtain ⟨o9, h⟩ := h
            obtain ⟨V3, eV3⟩ : ∃ W9 : ax_V, W9 = ax_u V2 239 r1 (V2 263 x1) := ⟨_, rfl⟩
            have h := h V3 eV3
            have hg3 : ax_g V3 := eV3 ▸ ax_u_g hg2 (hg2 _ _)
            refine ax_ist (n := 240) (pc' := 105) ⟨_, rfl⟩ ay_ok ay_239 (by decide) o9 eV3 rfl ?_
            refine ax_inc (x := x2) (pc' := 108) (L' := [some (.ref 222), some (ax_i x1), some (ax_i (x2 + 1)), some (ax_i r1)]) ⟨_, rfl⟩ rfl rfl rfl rfl ?_
            refine ax_mv 1 7 [some (.ref 222), some (ax_i x1), some (ax_i (x2 + 1)), some (ax_i r1)] [] rfl ?_
            exact h
          · have h := h.1 (Classical.not_not.mp hc)
            refine ax_mv 1 84 [some (.ref 222), some (ax_i x1), some (ax_i x2), some (ax_i r1)] [.ref 222] rfl ?_
            refine ax_gR (v := .ref 238) (pc' := 87) ⟨_, rfl⟩ fl_12_56 ay_222 rfl rfl ?_
            refine ax_mv 2 89 [some (.ref 222), some (ax_i x1), some (ax_i x2), some (ax_i r1)] [ax_i x1, ax_i r1, .ref 238] rfl ?_
            obtain ⟨o10, h⟩ := h
            obtain ⟨V4, eV4⟩ : ∃ W9 : ax_V, W9 = ax_u V2 238 r1 x1 := ⟨_, rfl⟩
            have h := h V4 eV4
            have hg4 : ax_g V4 := eV4 ▸ ax_u_g hg2 hx1
            refine ax_ist (n := 240) (pc' := 90) ⟨_, rfl⟩ ay_ok ay_238 (by decide) o10 eV4 rfl ?_
            refine ax_mv 1 105 [some (.ref 222), some (ax_i x1), some (ax_i x2), some (ax_i r1)] [] rfl ?_
            refine ax_inc (x := x2) (pc' := 108) (L' := [some (.ref 222), some (ax_i x1), some (ax_i (x2 + 1)), some (ax_i r1)]) ⟨_, rfl⟩ rfl rfl rfl rfl ?_
            refine ax_mv 1 7 [some (.ref 222), some (ax_i x1), some (ax_i (x2 + 1)), some (ax_i r1)] [] rfl ?_
            exact h
        · have h := h.2 hc
          exact h
set_option maxRecDepth 20000 in
theorem r_Model_checkLefts_63 {d : Nat} {V : ax_V} {Φ : ax_V → Prop} {Θ : ax_V → Prop} {x1 : Int} {x2 : Int} {x3 : Int} (hg : ax_g V) (hx1 : ax_rg x1) (hx2 : ax_rg x2) (hx3 : ax_rg x3) (h : (0 ≤ x2 ∧ x2 < 701) ∧ ax_N ay_lay d q_Model_note [.ref 222, ax_i (V 266 x2)] V (fun V1 => (0 ≤ x1 ∧ x1 < 351) ∧ ((V1 263 x1 = -1 → (0 ≤ x3 ∧ x3 < 240) ∧ (∀ V3, V3 = ax_u V1 238 x3 x1 → k_Model_checkLefts_7 d x1 (x2 + 1) (some (ax_i x3)) V3 Φ Θ)) ∧ (¬ V1 263 x1 = -1 → (0 ≤ x1 ∧ x1 < 351) ∧ (0 ≤ x3 ∧ x3 < 240) ∧ (∀ V2, V2 = ax_u V1 239 x3 (V1 263 x1) → k_Model_checkLefts_7 d x1 (x2 + 1) (some (ax_i x3)) V2 Φ Θ)))) Θ) : k_Model_checkLefts_63 d x1 x2 x3 V Φ Θ := by
  refine ax_mv 2 65 [some (.ref 222), some (ax_i x1), some (ax_i x2), some (ax_i x3)] [.ref 222, .ref 222] rfl ?_
  refine ax_gR (v := .ref 266) (pc' := 68) ⟨_, rfl⟩ fl_12_140 ay_222 rfl rfl ?_
  refine ax_mv 1 69 [some (.ref 222), some (ax_i x1), some (ax_i x2), some (ax_i x3)] [ax_i x2, .ref 266, .ref 222] rfl ?_
  obtain ⟨o11, h⟩ := h
  refine ax_ild (n := 701) (pc' := 70) ⟨_, rfl⟩ ay_266 (by decide) o11 rfl ?_
  refine ax_callN (pc' := 73) ⟨_, rfl⟩ ml_12_433 (rest := []) rfl (fun ss hs => ⟨_, _, ay_222 ss hs⟩) (Nat.le_of_ble_eq_true rfl) rfl rfl h (fun V1 hg1 h => ?_)
  refine ax_mv 1 74 [some (.ref 222), some (ax_i x1), some (ax_i x2), some (ax_i x3)] [.ref 222] rfl ?_
  refine ax_gR (v := .ref 263) (pc' := 77) ⟨_, rfl⟩ fl_12_131 ay_222 rfl rfl ?_
  refine ax_mv 1 78 [some (.ref 222), some (ax_i x1), some (ax_i x2), some (ax_i x3)] [ax_i x1, .ref 263] rfl ?_
  obtain ⟨o12, h⟩ := h
  refine ax_ild (n := 351) (pc' := 79) ⟨_, rfl⟩ ay_263 (by decide) o12 rfl ?_
  refine ax_mv 1 80 [some (.ref 222), some (ax_i x1), some (ax_i x2), some (ax_i x3)] [ax_i (-1), ax_i (V1 263 x1)] rfl ?_
  refine ax_if2 (p1 := 93) (p2 := 83) ⟨_, rfl⟩ (by decide) rfl (hg1 _ _) (by decide) (fun hc => ?_) (fun hc => ?_)
  · have h := h.2 hc
    refine ax_mv 1 94 [some (.ref 222), some (ax_i x1), some (ax_i x2), some (ax_i x3)] [.ref 222] rfl ?_
    refine ax_gR (v := .ref 239) (pc' := 97) ⟨_, rfl⟩ fl_12_59 ay_222 rfl rfl ?_
    refine ax_mv 2 99 [some (.ref 222), some (ax_i x1), some (ax_i x2), some (ax_i x3)] [.ref 222, ax_i x3, .ref 239] rfl ?_
    refine ax_gR (v := .ref 263) (pc' := 102) ⟨_, rfl⟩ fl_12_131 ay_222 rfl rfl ?_
    refine ax_mv 1 103 [some (.ref 222), some (ax_i x1), some (ax_i x2), some (ax_i x3)] [ax_i x1, .ref 263, ax_i x3, .ref 239] rfl ?_
    obtain ⟨o13, h⟩ := h
    refine ax_ild (n := 351) (pc' := 104) ⟨_, rfl⟩ ay_263 (by decide) o13 rfl ?_
    obtain ⟨o14, h⟩ := h
    obtain ⟨V2, eV2⟩ : ∃ W9 : ax_V, W9 = ax_u V1 239 x3 (V1 263 x1) := ⟨_, rfl⟩
    have h := h V2 eV2
    have hg2 : ax_g V2 := eV2 ▸ ax_u_g hg1 (hg1 _ _)
    refine ax_ist (n := 240) (pc' := 105) ⟨_, rfl⟩ ay_ok ay_239 (by decide) o14 eV2 rfl ?_
    refine ax_inc (x := x2) (pc' := 108) (L' := [some (.ref 222), some (ax_i x1), some (ax_i (x2 + 1)), some (ax_i x3)]) ⟨_, rfl⟩ rfl rfl rfl rfl ?_
    refine ax_mv 1 7 [some (.ref 222), some (ax_i x1), some (ax_i (x2 + 1)), some (ax_i x3)] [] rfl ?_
    exact h
  · have h := h.1 (Classical.not_not.mp hc)
    refine ax_mv 1 84 [some (.ref 222), some (ax_i x1), some (ax_i x2), some (ax_i x3)] [.ref 222] rfl ?_
    refine ax_gR (v := .ref 238) (pc' := 87) ⟨_, rfl⟩ fl_12_56 ay_222 rfl rfl ?_
    refine ax_mv 2 89 [some (.ref 222), some (ax_i x1), some (ax_i x2), some (ax_i x3)] [ax_i x1, ax_i x3, .ref 238] rfl ?_
    obtain ⟨o15, h⟩ := h
    obtain ⟨V3, eV3⟩ : ∃ W9 : ax_V, W9 = ax_u V1 238 x3 x1 := ⟨_, rfl⟩
    have h := h V3 eV3
    have hg3 : ax_g V3 := eV3 ▸ ax_u_g hg1 hx1
    refine ax_ist (n := 240) (pc' := 90) ⟨_, rfl⟩ ay_ok ay_238 (by decide) o15 eV3 rfl ?_
    refine ax_mv 1 105 [some (.ref 222), some (ax_i x1), some (ax_i x2), some (ax_i x3)] [] rfl ?_
    refine ax_inc (x := x2) (pc' := 108) (L' := [some (.ref 222), some (ax_i x1), some (ax_i (x2 + 1)), some (ax_i x3)]) ⟨_, rfl⟩ rfl rfl rfl rfl ?_
    refine ax_mv 1 7 [some (.ref 222), some (ax_i x1), some (ax_i (x2 + 1)), some (ax_i x3)] [] rfl ?_
    exact h
set_option maxRecDepth 20000 in
theorem r_Model_checkLefts {d : Nat} {V : ax_V} {Φ : ax_V → Prop} {Θ : ax_V → Prop} {x1 : Int} (hg : ax_g V) (hx1 : ax_rg x1) (h : (0 ≤ x1 ∧ x1 < 351) ∧ k_Model_checkLefts_7 d x1 (V 259 x1) none V Φ Θ) : ax_N ay_lay (d + 1) q_Model_checkLefts [.ref 222, ax_i x1] V Φ Θ := by
  refine ax_T.of (M := m_Model_checkLefts) rfl (Nat.le_of_ble_eq_true rfl) ?_
  refine ax_mv 0 0 [some (.ref 222), some (ax_i x1), none, none] [] rfl ?_
  refine ax_mv 1 1 [some (.ref 222), some (ax_i x1), none, none] [.ref 222] rfl ?_
  refine ax_gR (v := .ref 259) (pc' := 4) ⟨_, rfl⟩ fl_12_119 ay_222 rfl rfl ?_
  refine ax_mv 1 5 [some (.ref 222), some (ax_i x1), none, none] [ax_i x1, .ref 259] rfl ?_
  obtain ⟨o16, h⟩ := h
  refine ax_ild (n := 351) (pc' := 6) ⟨_, rfl⟩ ay_259 (by decide) o16 rfl ?_
  refine ax_sti (i := 0) (k := 2) (n := 1) (pc' := 7) (L' := [some (.ref 222), some (ax_i x1), some (ax_i (V 259 x1)), none]) ⟨_, rfl⟩ rfl rfl rfl (Nat.le_of_ble_eq_true rfl) rfl rfl ?_
  exact h
abbrev k_Model_isSecond_2 (d : Nat) (x1 : Int) (x2 : Int) (x3 : Int) (y4 : Option Value) (V : ax_V) (Φ : Int → ax_V → Prop) (Θ : ax_V → Prop) : Prop := ax_R ay_lay ax_t d m_Model_isSecond 2 [some (.ref 222), some (ax_i x1), some (ax_i x2), some (ax_i x3), y4] [] V (ax_Ir Φ) Θ
theorem r_Model_isSecond_2 {d : Nat} {V : ax_V} {Φ : Int → ax_V → Prop} {Θ : ax_V → Prop} {x1 : Int} {x2 : Int} {x3 : Int} {y4 : Option Value} (hg : ax_g V) (hx1 : ax_rg x1) (hx2 : ax_rg x2) (hx3 : ax_rg x3) (hy4 : ax_y y4) (h : ((x2 ≤ x3 → Φ 0 V) ∧ (x3 < x2 → (0 ≤ x3 ∧ x3 < 701) ∧ (0 ≤ x2 ∧ x2 < 701) ∧ ((V 265 x3 = V 265 x2 → ax_I ay_lay d q_Model_ownerOf [.ref 222, ax_i x3] V (fun r1 V1 => (0 ≤ r1 ∧ r1 < 351) ∧ (0 ≤ x1 ∧ x1 < 351) ∧ ((V1 258 r1 = V1 258 x1 → (0 ≤ r1 ∧ r1 < 351) ∧ ((V1 263 r1 = -1 → Φ 1 V1) ∧ (¬ V1 263 r1 = -1 → (0 ≤ r1 ∧ r1 < 351) ∧ (0 ≤ x1 ∧ x1 < 351) ∧ ((V1 263 r1 = V1 263 x1 → (0 ≤ r1 ∧ r1 < 351) ∧ (0 ≤ x1 ∧ x1 < 351) ∧ ((V1 264 r1 = V1 264 x1 → Φ 1 V1) ∧ (¬ V1 264 r1 = V1 264 x1 → k_Model_isSecond_2 d x1 x2 (x3 + 1) (some (ax_i r1)) V1 Φ Θ))) ∧ (¬ V1 263 r1 = V1 263 x1 → Φ 1 V1))))) ∧ (¬ V1 258 r1 = V1 258 x1 → k_Model_isSecond_2 d x1 x2 (x3 + 1) (some (ax_i r1)) V1 Φ Θ))) Θ) ∧ (¬ V 265 x3 = V 265 x2 → k_Model_isSecond_2 d x1 x2 (x3 + 1) y4 V Φ Θ))))) : k_Model_isSecond_2 d x1 x2 x3 y4 V Φ Θ := by
  refine ax_mv 2 4 [some (.ref 222), some (ax_i x1), some (ax_i x2), some (ax_i x3), y4] [ax_i x2, ax_i x3] rfl ?_
  refine ax_if2 (p1 := 102) (p2 := 7) ⟨_, rfl⟩ (by decide) rfl hx3 hx2 (fun hc => ?_) (fun hc => ?_)
  · have h := h.1 hc
    refine ax_mv 1 103 [some (.ref 222), some (ax_i x1), some (ax_i x2), some (ax_i x3), y4] [ax_i 0] rfl ?_
    exact ax_iret ⟨_, rfl⟩ rfl (ax_nbv (by decide)) (by decide) hg h
  · have h := h.2 (Int.not_le.mp hc)
    refine ax_mv 1 8 [some (.ref 222), some (ax_i x1), some (ax_i x2), some (ax_i x3), y4] [.ref 222] rfl ?_
    refine ax_gR (v := .ref 265) (pc' := 11) ⟨_, rfl⟩ fl_12_137 ay_222 rfl rfl ?_
    refine ax_mv 1 12 [some (.ref 222), some (ax_i x1), some (ax_i x2), some (ax_i x3), y4] [ax_i x3, .ref 265] rfl ?_
    obtain ⟨o1, h⟩ := h
    refine ax_ild (n := 701) (pc' := 13) ⟨_, rfl⟩ ay_265 (by decide) o1 rfl ?_
    refine ax_mv 1 14 [some (.ref 222), some (ax_i x1), some (ax_i x2), some (ax_i x3), y4] [.ref 222, ax_i (V 265 x3)] rfl ?_
    refine ax_gR (v := .ref 265) (pc' := 17) ⟨_, rfl⟩ fl_12_137 ay_222 rfl rfl ?_
    refine ax_mv 1 18 [some (.ref 222), some (ax_i x1), some (ax_i x2), some (ax_i x3), y4] [ax_i x2, .ref 265, ax_i (V 265 x3)] rfl ?_
    obtain ⟨o2, h⟩ := h
    refine ax_ild (n := 701) (pc' := 19) ⟨_, rfl⟩ ay_265 (by decide) o2 rfl ?_
    refine ax_if2 (p1 := 25) (p2 := 22) ⟨_, rfl⟩ (by decide) rfl (hg _ _) (hg _ _) (fun hc => ?_) (fun hc => ?_)
    · have h := h.1 hc
      refine ax_mv 2 27 [some (.ref 222), some (ax_i x1), some (ax_i x2), some (ax_i x3), y4] [ax_i x3, .ref 222] rfl ?_
      refine ax_callI (pc' := 30) ⟨_, rfl⟩ ml_12_472 (rest := []) rfl (fun ss hs => ⟨_, _, ay_222 ss hs⟩) (Nat.le_of_ble_eq_true rfl) rfl rfl h (fun r1 V1 hg1 hr1 h => ?_)
      refine ax_sti (i := 0) (k := 4) (n := 2) (pc' := 32) (L' := [some (.ref 222), some (ax_i x1), some (ax_i x2), some (ax_i x3), some (ax_i r1)]) ⟨_, rfl⟩ rfl rfl rfl (Nat.le_of_ble_eq_true rfl) rfl rfl ?_
      refine ax_mv 1 33 [some (.ref 222), some (ax_i x1), some (ax_i x2), some (ax_i x3), some (ax_i r1)] [.ref 222] rfl ?_
      refine ax_gR (v := .ref 258) (pc' := 36) ⟨_, rfl⟩ fl_12_116 ay_222 rfl rfl ?_
      refine ax_mv 1 38 [some (.ref 222), some (ax_i x1), some (ax_i x2), some (ax_i x3), some (ax_i r1)] [ax_i r1, .ref 258] rfl ?_
      obtain ⟨o3, h⟩ := h
      refine ax_ild (n := 351) (pc' := 39) ⟨_, rfl⟩ ay_258 (by decide) o3 rfl ?_
      refine ax_mv 1 40 [some (.ref 222), some (ax_i x1), some (ax_i x2), some (ax_i x3), some (ax_i r1)] [.ref 222, ax_i (V1 258 r1)] rfl ?_
      refine ax_gR (v := .ref 258) (pc' := 43) ⟨_, rfl⟩ fl_12_116 ay_222 rfl rfl ?_
      refine ax_mv 1 44 [some (.ref 222), some (ax_i x1), some (ax_i x2), some (ax_i x3), some (ax_i r1)] [ax_i x1, .ref 258, ax_i (V1 258 r1)] rfl ?_
      obtain ⟨o4, h⟩ := h
      refine ax_ild (n := 351) (pc' := 45) ⟨_, rfl⟩ ay_258 (by decide) o4 rfl ?_
      refine ax_if2 (p1 := 51) (p2 := 48) ⟨_, rfl⟩ (by decide) rfl (hg1 _ _) (hg1 _ _) (fun hc => ?_) (fun hc => ?_)
      · have h := h.1 hc
        refine ax_mv 1 52 [some (.ref 222), some (ax_i x1), some (ax_i x2), some (ax_i x3), some (ax_i r1)] [.ref 222] rfl ?_
        refine ax_gR (v := .ref 263) (pc' := 55) ⟨_, rfl⟩ fl_12_131 ay_222 rfl rfl ?_
        refine ax_mv 1 57 [some (.ref 222), some (ax_i x1), some (ax_i x2), some (ax_i x3), some (ax_i r1)] [ax_i r1, .ref 263] rfl ?_
        obtain ⟨o5, h⟩ := h
        refine ax_ild (n := 351) (pc' := 58) ⟨_, rfl⟩ ay_263 (by decide) o5 rfl ?_
        refine ax_mv 1 59 [some (.ref 222), some (ax_i x1), some (ax_i x2), some (ax_i x3), some (ax_i r1)] [ax_i (-1), ax_i (V1 263 r1)] rfl ?_
        refine ax_if2 (p1 := 94) (p2 := 62) ⟨_, rfl⟩ (by decide) rfl (hg1 _ _) (by decide) (fun hc => ?_) (fun hc => ?_)
        · have h := h.1 hc
          refine ax_mv 1 95 [some (.ref 222), some (ax_i x1), some (ax_i x2), some (ax_i x3), some (ax_i r1)] [ax_i 1] rfl ?_
          exact ax_iret ⟨_, rfl⟩ rfl (ax_nbv (by decide)) (by decide) hg1 h
        · have h := h.2 hc
          refine ax_mv 1 63 [some (.ref 222), some (ax_i x1), some (ax_i x2), some (ax_i x3), some (ax_i r1)] [.ref 222] rfl ?_
          refine ax_gR (v := .ref 263) (pc' := 66) ⟨_, rfl⟩ fl_12_131 ay_222 rfl rfl ?_
          refine ax_mv 1 68 [some (.ref 222), some (ax_i x1), some (ax_i x2), some (ax_i x3), some (ax_i r1)] [ax_i r1, .ref 263] rfl ?_
          obtain ⟨o6, h⟩ := h
          refine ax_ild (n := 351) (pc' := 69) ⟨_, rfl⟩ ay_263 (by decide) o6 rfl ?_
          refine ax_mv 1 70 [some (.ref 222), some (ax_i x1), some (ax_i x2), some (ax_i x3), some (ax_i r1)] [.ref 222, ax_i (V1 263 r1)] rfl ?_
          refine ax_gR (v := .ref 263) (pc' := 73) ⟨_, rfl⟩ fl_12_131 ay_222 rfl rfl ?_
          refine ax_mv 1 74 [some (.ref 222), some (ax_i x1), some (ax_i x2), some (ax_i x3), some (ax_i r1)] [ax_i x1, .ref 263, ax_i (V1 263 r1)] rfl ?_
          obtain ⟨o7, h⟩ := h
          refine ax_ild (n := 351) (pc' := 75) ⟨_, rfl⟩ ay_263 (by decide) o7 rfl ?_
          refine ax_if2 (p1 := 94) (p2 := 78) ⟨_, rfl⟩ (by decide) rfl (hg1 _ _) (hg1 _ _) (fun hc => ?_) (fun hc => ?_)
          · have h := h.2 hc
            refine ax_mv 1 95 [some (.ref 222), some (ax_i x1), some (ax_i x2), some (ax_i x3), some (ax_i r1)] [ax_i 1] rfl ?_
            exact ax_iret ⟨_, rfl⟩ rfl (ax_nbv (by decide)) (by decide) hg1 h
          · have h := h.1 (Classical.not_not.mp hc)
            refine ax_mv 1 79 [some (.ref 222), some (ax_i x1), some (ax_i x2), some (ax_i x3), some (ax_i r1)] [.ref 222] rfl ?_
            refine ax_gR (v := .ref 264) (pc' := 82) ⟨_, rfl⟩ fl_12_134 ay_222 rfl rfl ?_
            refine ax_mv 1 84 [some (.ref 222), some (ax_i x1), some (ax_i x2), some (ax_i x3), some (ax_i r1)] [ax_i r1, .ref 264] rfl ?_
            obtain ⟨o8, h⟩ := h
            refine ax_ild (n := 351) (pc' := 85) ⟨_, rfl⟩ ay_264 (by decide) o8 rfl ?_
            refine ax_mv 1 86 [some (.ref 222), some (ax_i x1), some (ax_i x2), some (ax_i x3), some (ax_i r1)] [.ref 222, ax_i (V1 264 r1)] rfl ?_
            refine ax_gR (v := .ref 264) (pc' := 89) ⟨_, rfl⟩ fl_12_134 ay_222 rfl rfl ?_
            refine ax_mv 1 90 [some (.ref 222), some (ax_i x1), some (ax_i x2), some (ax_i x3), some (ax_i r1)] [ax_i x1, .ref 264, ax_i (V1 264 r1)] rfl ?_
            obtain ⟨o9, h⟩ := h
            refine ax_ild (n := 351) (pc' := 91) ⟨_, rfl⟩ ay_264 (by decide) o9 rfl ?_
            refine ax_if2 (p1 := 96) (p2 := 94) ⟨_, rfl⟩ (by decide) rfl (hg1 _ _) (hg1 _ _) (fun hc => ?_) (fun hc => ?_)
            · have h := h.2 hc
              refine ax_inc (x := x3) (pc' := 99) (L' := [some (.ref 222), some (ax_i x1), some (ax_i x2), some (ax_i (x3 + 1)), some (ax_i r1)]) ⟨_, rfl⟩ rfl rfl rfl rfl ?_
              refine ax_mv 1 2 [some (.ref 222), some (ax_i x1), some (ax_i x2), some (ax_i (x3 + 1)), some (ax_i r1)] [] rfl ?_
              exact h
            · have h := h.1 (Classical.not_not.mp hc)
              refine ax_mv 1 95 [some (.ref 222), some (ax_i x1), some (ax_i x2), some (ax_i x3), some (ax_i r1)] [ax_i 1] rfl ?_
              exact ax_iret ⟨_, rfl⟩ rfl (ax_nbv (by decide)) (by decide) hg1 h
      · have h := h.2 hc
        refine ax_mv 1 96 [some (.ref 222), some (ax_i x1), some (ax_i x2), some (ax_i x3), some (ax_i r1)] [] rfl ?_
        refine ax_inc (x := x3) (pc' := 99) (L' := [some (.ref 222), some (ax_i x1), some (ax_i x2), some (ax_i (x3 + 1)), some (ax_i r1)]) ⟨_, rfl⟩ rfl rfl rfl rfl ?_
        refine ax_mv 1 2 [some (.ref 222), some (ax_i x1), some (ax_i x2), some (ax_i (x3 + 1)), some (ax_i r1)] [] rfl ?_
        exact h
    · have h := h.2 hc
      refine ax_mv 1 96 [some (.ref 222), some (ax_i x1), some (ax_i x2), some (ax_i x3), y4] [] rfl ?_
      refine ax_inc (x := x3) (pc' := 99) (L' := [some (.ref 222), some (ax_i x1), some (ax_i x2), some (ax_i (x3 + 1)), y4]) ⟨_, rfl⟩ rfl rfl rfl rfl ?_
      refine ax_mv 1 2 [some (.ref 222), some (ax_i x1), some (ax_i x2), some (ax_i (x3 + 1)), y4] [] rfl ?_
      exact h
theorem r_Model_isSecond {d : Nat} {V : ax_V} {Φ : Int → ax_V → Prop} {Θ : ax_V → Prop} {x1 : Int} {x2 : Int} (hg : ax_g V) (hx1 : ax_rg x1) (hx2 : ax_rg x2) (h : k_Model_isSecond_2 d x1 x2 0 none V Φ Θ) : ax_I ay_lay (d + 1) q_Model_isSecond [.ref 222, ax_i x1, ax_i x2] V Φ Θ := by
  refine ax_T.of (M := m_Model_isSecond) rfl (Nat.le_of_ble_eq_true rfl) ?_
  refine ax_mv 0 0 [some (.ref 222), some (ax_i x1), some (ax_i x2), none, none] [] rfl ?_
  refine ax_mv 1 1 [some (.ref 222), some (ax_i x1), some (ax_i x2), none, none] [ax_i 0] rfl ?_
  refine ax_sti (i := 0) (k := 3) (n := 1) (pc' := 2) (L' := [some (.ref 222), some (ax_i x1), some (ax_i x2), some (ax_i 0), none]) ⟨_, rfl⟩ rfl rfl rfl (Nat.le_of_ble_eq_true rfl) rfl rfl ?_
  exact h
abbrev k_Model_ownerOf_2 (d : Nat) (x1 : Int) (x2 : Int) (V : ax_V) (Φ : Int → ax_V → Prop) (Θ : ax_V → Prop) : Prop := ax_R ay_lay ax_t d m_Model_ownerOf 2 [some (.ref 222), some (ax_i x1), some (ax_i x2)] [] V (ax_Ir Φ) Θ
theorem r_Model_ownerOf_2 {d : Nat} {V : ax_V} {Φ : Int → ax_V → Prop} {Θ : ax_V → Prop} {x1 : Int} {x2 : Int} (hg : ax_g V) (hx1 : ax_rg x1) (hx2 : ax_rg x2) (h : ((V 222 44 ≤ x2 → Φ (-1) V) ∧ (x2 < V 222 44 → (0 ≤ x2 ∧ x2 < 351) ∧ ((x1 < V 259 x2 → k_Model_ownerOf_2 d x1 (x2 + 1) V Φ Θ) ∧ (V 259 x2 ≤ x1 → (0 ≤ x2 ∧ x2 < 351) ∧ (0 ≤ x2 ∧ x2 < 351) ∧ ax_rg ((V 259 x2) + (V 260 x2)) ∧ (((V 259 x2) + (V 260 x2) ≤ x1 → k_Model_ownerOf_2 d x1 (x2 + 1) V Φ Θ) ∧ (x1 < (V 259 x2) + (V 260 x2) → Φ x2 V))))))) : k_Model_ownerOf_2 d x1 x2 V Φ Θ := by
  refine ax_mv 2 4 [some (.ref 222), some (ax_i x1), some (ax_i x2)] [.ref 222, ax_i x2] rfl ?_
  refine ax_gI (kI := 44) (pc' := 7) ⟨_, rfl⟩ fl_12_414 ay_222 rfl rfl rfl ?_
  refine ax_if2 (p1 := 45) (p2 := 10) ⟨_, rfl⟩ (by decide) rfl hx2 (hg _ _) (fun hc => ?_) (fun hc => ?_)
  · have h := h.1 hc
    refine ax_mv 1 46 [some (.ref 222), some (ax_i x1), some (ax_i x2)] [ax_i (-1)] rfl ?_
    exact ax_iret ⟨_, rfl⟩ rfl rfl (by decide) hg h
  · have h := h.2 (Int.not_le.mp hc)
    refine ax_mv 2 12 [some (.ref 222), some (ax_i x1), some (ax_i x2)] [.ref 222, ax_i x1] rfl ?_
    refine ax_gR (v := .ref 259) (pc' := 15) ⟨_, rfl⟩ fl_12_119 ay_222 rfl rfl ?_
    refine ax_mv 1 16 [some (.ref 222), some (ax_i x1), some (ax_i x2)] [ax_i x2, .ref 259, ax_i x1] rfl ?_
    obtain ⟨o1, h⟩ := h
    refine ax_ild (n := 351) (pc' := 17) ⟨_, rfl⟩ ay_259 (by decide) o1 rfl ?_
    refine ax_if2 (p1 := 39) (p2 := 20) ⟨_, rfl⟩ (by decide) rfl hx1 (hg _ _) (fun hc => ?_) (fun hc => ?_)
    · have h := h.1 hc
      refine ax_inc (x := x2) (pc' := 42) (L' := [some (.ref 222), some (ax_i x1), some (ax_i (x2 + 1))]) ⟨_, rfl⟩ rfl rfl rfl rfl ?_
      refine ax_mv 1 2 [some (.ref 222), some (ax_i x1), some (ax_i (x2 + 1))] [] rfl ?_
      exact h
    · have h := h.2 (Int.not_lt.mp hc)
      refine ax_mv 2 22 [some (.ref 222), some (ax_i x1), some (ax_i x2)] [.ref 222, ax_i x1] rfl ?_
      refine ax_gR (v := .ref 259) (pc' := 25) ⟨_, rfl⟩ fl_12_119 ay_222 rfl rfl ?_
      refine ax_mv 1 26 [some (.ref 222), some (ax_i x1), some (ax_i x2)] [ax_i x2, .ref 259, ax_i x1] rfl ?_
      obtain ⟨o2, h⟩ := h
      refine ax_ild (n := 351) (pc' := 27) ⟨_, rfl⟩ ay_259 (by decide) o2 rfl ?_
      refine ax_mv 1 28 [some (.ref 222), some (ax_i x1), some (ax_i x2)] [.ref 222, ax_i (V 259 x2), ax_i x1] rfl ?_
      refine ax_gR (v := .ref 260) (pc' := 31) ⟨_, rfl⟩ fl_12_122 ay_222 rfl rfl ?_
      refine ax_mv 1 32 [some (.ref 222), some (ax_i x1), some (ax_i x2)] [ax_i x2, .ref 260, ax_i (V 259 x2), ax_i x1] rfl ?_
      obtain ⟨o3, h⟩ := h
      refine ax_ild (n := 351) (pc' := 33) ⟨_, rfl⟩ ay_260 (by decide) o3 rfl ?_
      refine ax_add (pc' := 34) ⟨_, rfl⟩ rfl ?_
      obtain ⟨o4, h⟩ := h
      refine ax_if2 (p1 := 39) (p2 := 37) ⟨_, rfl⟩ (by decide) rfl hx1 o4 (fun hc => ?_) (fun hc => ?_)
      · have h := h.1 hc
        refine ax_inc (x := x2) (pc' := 42) (L' := [some (.ref 222), some (ax_i x1), some (ax_i (x2 + 1))]) ⟨_, rfl⟩ rfl rfl rfl rfl ?_
        refine ax_mv 1 2 [some (.ref 222), some (ax_i x1), some (ax_i (x2 + 1))] [] rfl ?_
        exact h
      · have h := h.2 (Int.not_le.mp hc)
        refine ax_mv 1 38 [some (.ref 222), some (ax_i x1), some (ax_i x2)] [ax_i x2] rfl ?_
        exact ax_iret ⟨_, rfl⟩ rfl rfl hx2 hg h
theorem r_Model_ownerOf {d : Nat} {V : ax_V} {Φ : Int → ax_V → Prop} {Θ : ax_V → Prop} {x1 : Int} (hg : ax_g V) (hx1 : ax_rg x1) (h : k_Model_ownerOf_2 d x1 0 V Φ Θ) : ax_I ay_lay (d + 1) q_Model_ownerOf [.ref 222, ax_i x1] V Φ Θ := by
  refine ax_T.of (M := m_Model_ownerOf) rfl (Nat.le_of_ble_eq_true rfl) ?_
  refine ax_mv 0 0 [some (.ref 222), some (ax_i x1), none] [] rfl ?_
  refine ax_mv 1 1 [some (.ref 222), some (ax_i x1), none] [ax_i 0] rfl ?_
  refine ax_sti (i := 0) (k := 2) (n := 1) (pc' := 2) (L' := [some (.ref 222), some (ax_i x1), some (ax_i 0)]) ⟨_, rfl⟩ rfl rfl rfl (Nat.le_of_ble_eq_true rfl) rfl rfl ?_
  exact h
abbrev k_Model_isLeft_2 (d : Nat) (x1 : Int) (x2 : Int) (x3 : Int) (V : ax_V) (Φ : Int → ax_V → Prop) (Θ : ax_V → Prop) : Prop := ax_R ay_lay ax_t d m_Model_isLeft 2 [some (.ref 222), some (ax_i x1), some (ax_i x2), some (ax_i x3)] [] V (ax_Ir Φ) Θ
theorem r_Model_isLeft_2 {d : Nat} {V : ax_V} {Φ : Int → ax_V → Prop} {Θ : ax_V → Prop} {x1 : Int} {x2 : Int} {x3 : Int} (hg : ax_g V) (hx1 : ax_rg x1) (hx2 : ax_rg x2) (hx3 : ax_rg x3) (h : ((V 222 44 ≤ x3 → Φ 0 V) ∧ (x3 < V 222 44 → (0 ≤ x3 ∧ x3 < 351) ∧ ((V 258 x3 = x1 → ax_I ay_lay d q_Model_hasLeft [.ref 222, ax_i x3, ax_i x2] V (fun r1 V1 => ((r1 = 0 → k_Model_isLeft_2 d x1 x2 (x3 + 1) V1 Φ Θ) ∧ (¬ r1 = 0 → Φ 1 V1))) Θ) ∧ (¬ V 258 x3 = x1 → k_Model_isLeft_2 d x1 x2 (x3 + 1) V Φ Θ))))) : k_Model_isLeft_2 d x1 x2 x3 V Φ Θ := by
  refine ax_mv 2 4 [some (.ref 222), some (ax_i x1), some (ax_i x2), some (ax_i x3)] [.ref 222, ax_i x3] rfl ?_
  refine ax_gI (kI := 44) (pc' := 7) ⟨_, rfl⟩ fl_12_414 ay_222 rfl rfl rfl ?_
  refine ax_if2 (p1 := 37) (p2 := 10) ⟨_, rfl⟩ (by decide) rfl hx3 (hg _ _) (fun hc => ?_) (fun hc => ?_)
  · have h := h.1 hc
    refine ax_mv 1 38 [some (.ref 222), some (ax_i x1), some (ax_i x2), some (ax_i x3)] [ax_i 0] rfl ?_
    exact ax_iret ⟨_, rfl⟩ rfl (ax_nbv (by decide)) (by decide) hg h
  · have h := h.2 (Int.not_le.mp hc)
    refine ax_mv 1 11 [some (.ref 222), some (ax_i x1), some (ax_i x2), some (ax_i x3)] [.ref 222] rfl ?_
    refine ax_gR (v := .ref 258) (pc' := 14) ⟨_, rfl⟩ fl_12_116 ay_222 rfl rfl ?_
    refine ax_mv 1 15 [some (.ref 222), some (ax_i x1), some (ax_i x2), some (ax_i x3)] [ax_i x3, .ref 258] rfl ?_
    obtain ⟨o1, h⟩ := h
    refine ax_ild (n := 351) (pc' := 16) ⟨_, rfl⟩ ay_258 (by decide) o1 rfl ?_
    refine ax_mv 1 17 [some (.ref 222), some (ax_i x1), some (ax_i x2), some (ax_i x3)] [ax_i x1, ax_i (V 258 x3)] rfl ?_
    refine ax_if2 (p1 := 31) (p2 := 20) ⟨_, rfl⟩ (by decide) rfl (hg _ _) hx1 (fun hc => ?_) (fun hc => ?_)
    · have h := h.2 hc
      refine ax_inc (x := x3) (pc' := 34) (L' := [some (.ref 222), some (ax_i x1), some (ax_i x2), some (ax_i (x3 + 1))]) ⟨_, rfl⟩ rfl rfl rfl rfl ?_
      refine ax_mv 1 2 [some (.ref 222), some (ax_i x1), some (ax_i x2), some (ax_i (x3 + 1))] [] rfl ?_
      exact h
    · have h := h.1 (Classical.not_not.mp hc)
      refine ax_mv 3 23 [some (.ref 222), some (ax_i x1), some (ax_i x2), some (ax_i x3)] [ax_i x2, ax_i x3, .ref 222] rfl ?_
      refine ax_callI (pc' := 26) ⟨_, rfl⟩ ml_12_469 (rest := []) rfl (fun ss hs => ⟨_, _, ay_222 ss hs⟩) (Nat.le_of_ble_eq_true rfl) rfl rfl h (fun r1 V1 hg1 hr1 h => ?_)
      refine ax_if (p1 := 31) (p2 := 29) ⟨_, rfl⟩ (by decide) rfl hr1 (fun hc => ?_) (fun hc => ?_)
      · have h := h.1 hc
        refine ax_inc (x := x3) (pc' := 34) (L' := [some (.ref 222), some (ax_i x1), some (ax_i x2), some (ax_i (x3 + 1))]) ⟨_, rfl⟩ rfl rfl rfl rfl ?_
        refine ax_mv 1 2 [some (.ref 222), some (ax_i x1), some (ax_i x2), some (ax_i (x3 + 1))] [] rfl ?_
        exact h
      · have h := h.2 hc
        refine ax_mv 1 30 [some (.ref 222), some (ax_i x1), some (ax_i x2), some (ax_i x3)] [ax_i 1] rfl ?_
        exact ax_iret ⟨_, rfl⟩ rfl (ax_nbv (by decide)) (by decide) hg1 h
theorem r_Model_isLeft {d : Nat} {V : ax_V} {Φ : Int → ax_V → Prop} {Θ : ax_V → Prop} {x1 : Int} {x2 : Int} (hg : ax_g V) (hx1 : ax_rg x1) (hx2 : ax_rg x2) (h : k_Model_isLeft_2 d x1 x2 0 V Φ Θ) : ax_I ay_lay (d + 1) q_Model_isLeft [.ref 222, ax_i x1, ax_i x2] V Φ Θ := by
  refine ax_T.of (M := m_Model_isLeft) rfl (Nat.le_of_ble_eq_true rfl) ?_
  refine ax_mv 0 0 [some (.ref 222), some (ax_i x1), some (ax_i x2), none] [] rfl ?_
  refine ax_mv 1 1 [some (.ref 222), some (ax_i x1), some (ax_i x2), none] [ax_i 0] rfl ?_
  refine ax_sti (i := 0) (k := 3) (n := 1) (pc' := 2) (L' := [some (.ref 222), some (ax_i x1), some (ax_i x2), some (ax_i 0)]) ⟨_, rfl⟩ rfl rfl rfl (Nat.le_of_ble_eq_true rfl) rfl rfl ?_
  exact h
