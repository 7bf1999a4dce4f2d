/-! RULES of the model's methods: a method each, and each loop of it. PRINTED by wip/gen/rules.py -/
abbrev k_Model_hasLeft_7 (d : Nat) (x1 : Int) (x2 : Int) (x3 : Int) (V : ax_V) (Φ : Int → ax_V → Prop) (Θ : ax_V → Prop) : Prop := ax_R ay_lay ax_t d m_Model_hasLeft 7 [some (.ref 222), some (ax_i x1), some (ax_i x2), some (ax_i x3)] [] V (ax_Ir Φ) Θ
theorem r_Model_hasLeft_7 {d : Nat} {V : ax_V} {Φ : Int → ax_V → Prop} {Θ : ax_V → Prop} {x1 : Int} {x2 : Int} {x3 : Int} (hg : ax_g V) (hx1 : ax_rg x1) (hx2 : ax_rg x2) (hx3 : ax_rg x3) (h : (0 ≤ x1 ∧ x1 < 351) ∧ (0 ≤ x1 ∧ x1 < 351) ∧ ax_rg ((V 259 x1) + (V 260 x1)) ∧ (((V 259 x1) + (V 260 x1) ≤ x3 → Φ 0 V) ∧ (x3 < (V 259 x1) + (V 260 x1) → (0 ≤ x3 ∧ x3 < 701) ∧ ((V 265 x3 = x2 → Φ 1 V) ∧ (¬ V 265 x3 = x2 → k_Model_hasLeft_7 d x1 x2 (x3 + 1) V Φ Θ))))) : k_Model_hasLeft_7 d x1 x2 x3 V Φ Θ := by
  refine ax_mv 2 9 [some (.ref 222), some (ax_i x1), some (ax_i x2), some (ax_i x3)] [.ref 222, ax_i x3] rfl ?_
  refine ax_gR (v := .ref 259) (pc' := 12) ⟨_, rfl⟩ fl_12_119 ay_222 rfl rfl ?_
  refine ax_mv 1 13 [some (.ref 222), some (ax_i x1), some (ax_i x2), some (ax_i x3)] [ax_i x1, .ref 259, ax_i x3] rfl ?_
  obtain ⟨o1, h⟩ := h
  refine ax_ild (n := 351) (pc' := 14) ⟨_, rfl⟩ ay_259 (by decide) o1 rfl ?_
  refine ax_mv 1 15 [some (.ref 222), some (ax_i x1), some (ax_i x2), some (ax_i x3)] [.ref 222, ax_i (V 259 x1), ax_i x3] rfl ?_
  refine ax_gR (v := .ref 260) (pc' := 18) ⟨_, rfl⟩ fl_12_122 ay_222 rfl rfl ?_
  refine ax_mv 1 19 [some (.ref 222), some (ax_i x1), some (ax_i x2), some (ax_i x3)] [ax_i x1, .ref 260, ax_i (V 259 x1), ax_i x3] rfl ?_
  obtain ⟨o2, h⟩ := h
  refine ax_ild (n := 351) (pc' := 20) ⟨_, rfl⟩ ay_260 (by decide) o2 rfl ?_
  refine ax_add (pc' := 21) ⟨_, rfl⟩ rfl ?_
  obtain ⟨o3, h⟩ := h
  refine ax_if2 (p1 := 42) (p2 := 24) ⟨_, rfl⟩ (by decide) rfl hx3 o3 (fun hc => ?_) (fun hc => ?_)
  · have h := h.1 hc
    refine ax_mv 1 43 [some (.ref 222), some (ax_i x1), some (ax_i x2), some (ax_i x3)] [ax_i 0] rfl ?_
    exact ax_iret ⟨_, rfl⟩ rfl (ax_nbv (by decide)) (by decide) hg h
  · have h := h.2 (Int.not_le.mp hc)
    refine ax_mv 1 25 [some (.ref 222), some (ax_i x1), some (ax_i x2), some (ax_i x3)] [.ref 222] rfl ?_
    refine ax_gR (v := .ref 265) (pc' := 28) ⟨_, rfl⟩ fl_12_137 ay_222 rfl rfl ?_
    refine ax_mv 1 29 [some (.ref 222), some (ax_i x1), some (ax_i x2), some (ax_i x3)] [ax_i x3, .ref 265] rfl ?_
    obtain ⟨o4, h⟩ := h
    refine ax_ild (n := 701) (pc' := 30) ⟨_, rfl⟩ ay_265 (by decide) o4 rfl ?_
    refine ax_mv 1 31 [some (.ref 222), some (ax_i x1), some (ax_i x2), some (ax_i x3)] [ax_i x2, ax_i (V 265 x3)] rfl ?_
    refine ax_if2 (p1 := 36) (p2 := 34) ⟨_, rfl⟩ (by decide) rfl (hg _ _) hx2 (fun hc => ?_) (fun hc => ?_)
    · have h := h.2 hc
      refine ax_inc (x := x3) (pc' := 39) (L' := [some (.ref 222), some (ax_i x1), some (ax_i x2), some (ax_i (x3 + 1))]) ⟨_, rfl⟩ rfl rfl rfl rfl ?_
      refine ax_mv 1 7 [some (.ref 222), some (ax_i x1), some (ax_i x2), some (ax_i (x3 + 1))] [] rfl ?_
      exact h
    · have h := h.1 (Classical.not_not.mp hc)
      refine ax_mv 1 35 [some (.ref 222), some (ax_i x1), some (ax_i x2), some (ax_i x3)] [ax_i 1] rfl ?_
      exact ax_iret ⟨_, rfl⟩ rfl (ax_nbv (by decide)) (by decide) hg h
theorem r_Model_hasLeft {d : Nat} {V : ax_V} {Φ : Int → ax_V → Prop} {Θ : ax_V → Prop} {x1 : Int} {x2 : Int} (hg : ax_g V) (hx1 : ax_rg x1) (hx2 : ax_rg x2) (h : (0 ≤ x1 ∧ x1 < 351) ∧ k_Model_hasLeft_7 d x1 x2 (V 259 x1) V Φ Θ) : ax_I ay_lay (d + 1) q_Model_hasLeft [.ref 222, ax_i x1, ax_i x2] V Φ Θ := by
  refine ax_T.of (M := m_Model_hasLeft) rfl (Nat.le_of_ble_eq_true rfl) ?_
  refine ax_mv 0 0 [some (.ref 222), some (ax_i x1), some (ax_i x2), none] [] rfl ?_
  refine ax_mv 1 1 [some (.ref 222), some (ax_i x1), some (ax_i x2), none] [.ref 222] rfl ?_
  refine ax_gR (v := .ref 259) (pc' := 4) ⟨_, rfl⟩ fl_12_119 ay_222 rfl rfl ?_
  refine ax_mv 1 5 [some (.ref 222), some (ax_i x1), some (ax_i x2), none] [ax_i x1, .ref 259] rfl ?_
  obtain ⟨o5, h⟩ := h
  refine ax_ild (n := 351) (pc' := 6) ⟨_, rfl⟩ ay_259 (by decide) o5 rfl ?_
  refine ax_sti (i := 0) (k := 3) (n := 1) (pc' := 7) (L' := [some (.ref 222), some (ax_i x1), some (ax_i x2), some (ax_i (V 259 x1))]) ⟨_, rfl⟩ rfl rfl rfl (Nat.le_of_ble_eq_true rfl) rfl rfl ?_
  exact h
abbrev k_Model_checkStates_2 (d : Nat) (x1 : Int) (x2 : Int) (y3 : Option Value) (y4 : Option Value) (V : ax_V) (Φ : ax_V → Prop) (Θ : ax_V → Prop) : Prop := ax_R ay_lay ax_t d m_Model_checkStates 2 [some (.ref 222), some (ax_i x1), some (ax_i x2), y3, y4] [] V (ax_Nr Φ) Θ
abbrev k_Model_checkStates_53 (d : Nat) (x1 : Int) (x2 : Int) (y3 : Option Value) (y4 : Option Value) (V : ax_V) (Φ : ax_V → Prop) (Θ : ax_V → Prop) : Prop := ax_R ay_lay ax_t d m_Model_checkStates 53 [some (.ref 222), some (ax_i x1), some (ax_i x2), y3, y4] [] V (ax_Nr Φ) Θ
abbrev k_Model_checkStates_64 (d : Nat) (x1 : Int) (x2 : Int) (x3 : Int) (x4 : Int) (V : ax_V) (Φ : ax_V → Prop) (Θ : ax_V → Prop) : Prop := ax_R ay_lay ax_t d m_Model_checkStates 64 [some (.ref 222), some (ax_i x1), some (ax_i x2), some (ax_i x3), some (ax_i x4)] [] V (ax_Nr Φ) Θ
set_option maxRecDepth 20000 in
theorem r_Model_checkStates_2 {d : Nat} {V : ax_V} {Φ : ax_V → Prop} {Θ : ax_V → Prop} {x1 : Int} {x2 : Int} {y3 : Option Value} {y4 : Option Value} (hg : ax_g V) (hx1 : ax_rg x1) (hx2 : ax_rg x2) (hy3 : ax_y y3) (hy4 : ax_y y4) (h : ((V 222 60 ≤ x2 → k_Model_checkStates_53 d x1 0 y3 y4 V Φ Θ) ∧ (x2 < V 222 60 → (0 ≤ x2 ∧ x2 < 351) ∧ ((V 271 x2 = x1 → (0 ≤ x2 ∧ x2 < 351) ∧ (0 ≤ x1 ∧ x1 < 351) ∧ ((V 275 x2 < V 269 x1 → k_Model_checkStates_2 d x1 (x2 + 1) y3 y4 V Φ Θ) ∧ (V 269 x1 ≤ V 275 x2 → (0 ≤ x2 ∧ x2 < 351) ∧ ax_N ay_lay d q_Model_note [.ref 222, ax_i (V 278 x2)] V (fun V1 => k_Model_checkStates_2 d x1 (x2 + 1) y3 y4 V1 Φ Θ) Θ))) ∧ (¬ V 271 x2 = x1 → k_Model_checkStates_2 d x1 (x2 + 1) y3 y4 V Φ Θ))))) : k_Model_checkStates_2 d x1 x2 y3 y4 V Φ Θ := by
  refine ax_mv 2 4 [some (.ref 222), some (ax_i x1), some (ax_i x2), y3, y4] [.ref 222, ax_i x2] rfl ?_
  refine ax_gI (kI := 60) (pc' := 7) ⟨_, rfl⟩ fl_12_420 ay_222 rfl rfl rfl ?_
  refine ax_if2 (p1 := 51) (p2 := 10) ⟨_, rfl⟩ (by decide) rfl hx2 (hg _ _) (fun hc => ?_) (fun hc => ?_)
  · have h := h.1 hc
    refine ax_mv 1 52 [some (.ref 222), some (ax_i x1), some (ax_i x2), y3, y4] [ax_i 0] rfl ?_
    refine ax_sti (i := 0) (k := 2) (n := 1) (pc' := 53) (L' := [some (.ref 222), some (ax_i x1), some (ax_i 0), y3, y4]) ⟨_, rfl⟩ rfl rfl rfl (Nat.le_of_ble_eq_true rfl) rfl rfl ?_
    exact h
  · have h := h.2 (Int.not_le.mp hc)
    refine ax_mv 1 11 [some (.ref 222), some (ax_i x1), some (ax_i x2), y3, y4] [.ref 222] rfl ?_
    refine ax_gR (v := .ref 271) (pc' := 14) ⟨_, rfl⟩ fl_12_155 ay_222 rfl rfl ?_
    refine ax_mv 1 15 [some (.ref 222), some (ax_i x1), some (ax_i x2), y3, y4] [ax_i x2, .ref 271] rfl ?_
    obtain ⟨o1, h⟩ := h
    refine ax_ild (n := 351) (pc' := 16) ⟨_, rfl⟩ ay_271 (by decide) o1 rfl ?_
    refine ax_mv 1 17 [some (.ref 222), some (ax_i x1), some (ax_i x2), y3, y4] [ax_i x1, ax_i (V 271 x2)] rfl ?_
    refine ax_if2 (p1 := 45) (p2 := 20) ⟨_, rfl⟩ (by decide) rfl (hg _ _) hx1 (fun hc => ?_) (fun hc => ?_)
    · have h := h.2 hc
      refine ax_inc (x := x2) (pc' := 48) (L' := [some (.ref 222), some (ax_i x1), some (ax_i (x2 + 1)), y3, y4]) ⟨_, rfl⟩ rfl rfl rfl rfl ?_
      refine ax_mv 1 2 [some (.ref 222), some (ax_i x1), some (ax_i (x2 + 1)), y3, y4] [] rfl ?_
      exact h
    · have h := h.1 (Classical.not_not.mp hc)
      refine ax_mv 1 21 [some (.ref 222), some (ax_i x1), some (ax_i x2), y3, y4] [.ref 222] rfl ?_
      refine ax_gR (v := .ref 275) (pc' := 24) ⟨_, rfl⟩ fl_12_167 ay_222 rfl rfl ?_
      refine ax_mv 1 25 [some (.ref 222), some (ax_i x1), some (ax_i x2), y3, y4] [ax_i x2, .ref 275] rfl ?_
      obtain ⟨o2, h⟩ := h
      refine ax_ild (n := 351) (pc' := 26) ⟨_, rfl⟩ ay_275 (by decide) o2 rfl ?_
      refine ax_mv 1 27 [some (.ref 222), some (ax_i x1), some (ax_i x2), y3, y4] [.ref 222, ax_i (V 275 x2)] rfl ?_
      refine ax_gR (v := .ref 269) (pc' := 30) ⟨_, rfl⟩ fl_12_149 ay_222 rfl rfl ?_
      refine ax_mv 1 31 [some (.ref 222), some (ax_i x1), some (ax_i x2), y3, y4] [ax_i x1, .ref 269, ax_i (V 275 x2)] rfl ?_
      obtain ⟨o3, h⟩ := h
      refine ax_ild (n := 351) (pc' := 32) ⟨_, rfl⟩ ay_269 (by decide) o3 rfl ?_
      refine ax_if2 (p1 := 45) (p2 := 35) ⟨_, rfl⟩ (by decide) rfl (hg _ _) (hg _ _) (fun hc => ?_) (fun hc => ?_)
      · have h := h.1 hc
        refine ax_inc (x := x2) (pc' := 48) (L' := [some (.ref 222), some (ax_i x1), some (ax_i (x2 + 1)), y3, y4]) ⟨_, rfl⟩ rfl rfl rfl rfl ?_
        refine ax_mv 1 2 [some (.ref 222), some (ax_i x1), some (ax_i (x2 + 1)), y3, y4] [] rfl ?_
        exact h
      · have h := h.2 (Int.not_lt.mp hc)
        refine ax_mv 2 37 [some (.ref 222), some (ax_i x1), some (ax_i x2), y3, y4] [.ref 222, .ref 222] rfl ?_
        refine ax_gR (v := .ref 278) (pc' := 40) ⟨_, rfl⟩ fl_12_176 ay_222 rfl rfl ?_
        refine ax_mv 1 41 [some (.ref 222), some (ax_i x1), some (ax_i x2), y3, y4] [ax_i x2, .ref 278, .ref 222] rfl ?_
        obtain ⟨o4, h⟩ := h
        refine ax_ild (n := 351) (pc' := 42) ⟨_, rfl⟩ ay_278 (by decide) o4 rfl ?_
        refine ax_callN (pc' := 45) ⟨_, rfl⟩ ml_12_433 (rest := []) rfl (fun ss hs => ⟨_, _, ay_222 ss hs⟩) (Nat.le_of_ble_eq_true rfl) rfl rfl h (fun V1 hg1 h => ?_)
        refine ax_inc (x := x2) (pc' := 48) (L' := [some (.ref 222), some (ax_i x1), some (ax_i (x2 + 1)), y3, y4]) ⟨_, rfl⟩ rfl rfl rfl rfl ?_
        refine ax_mv 1 2 [some (.ref 222), some (ax_i x1), some (ax_i (x2 + 1)), y3, y4] [] rfl ?_
        exact h
set_option maxRecDepth 20000 in
theorem r_Model_checkStates_53 {d : Nat} {V : ax_V} {Φ : ax_V → Prop} {Θ : ax_V → Prop} {x1 : Int} {x2 : Int} {y3 : Option Value} {y4 : Option Value} (hg : ax_g V) (hx1 : ax_rg x1) (hx2 : ax_rg x2) (hy3 : ax_y y3) (hy4 : ax_y y4) (h : ((26 ≤ x2 → Φ V) ∧ (x2 < 26 → k_Model_checkStates_64 d x1 x2 0 0 V Φ Θ))) : k_Model_checkStates_53 d x1 x2 y3 y4 V Φ Θ := by
  refine ax_mv 1 54 [some (.ref 222), some (ax_i x1), some (ax_i x2), y3, y4] [ax_i x2] rfl ?_
  refine ax_bip (pc' := 56) ⟨_, rfl⟩ (by decide) rfl ?_
  refine ax_if2 (p1 := 130) (p2 := 59) ⟨_, rfl⟩ (by decide) rfl hx2 (by decide) (fun hc => ?_) (fun hc => ?_)
  · have h := h.1 hc
    exact ax_nret ⟨_, rfl⟩ rfl hg h
  · have h := h.2 (Int.not_le.mp hc)
    refine ax_mv 1 60 [some (.ref 222), some (ax_i x1), some (ax_i x2), y3, y4] [ax_i 0] rfl ?_
    refine ax_sti (i := 0) (k := 3) (n := 1) (pc' := 61) (L' := [some (.ref 222), some (ax_i x1), some (ax_i x2), some (ax_i 0), y4]) ⟨_, rfl⟩ rfl rfl rfl (Nat.le_of_ble_eq_true rfl) rfl rfl ?_
    refine ax_mv 1 62 [some (.ref 222), some (ax_i x1), some (ax_i x2), some (ax_i 0), y4] [ax_i 0] rfl ?_
    refine ax_sti (i := 0) (k := 4) (n := 2) (pc' := 64) (L' := [some (.ref 222), some (ax_i x1), some (ax_i x2), some (ax_i 0), some (ax_i 0)]) ⟨_, rfl⟩ rfl rfl rfl (Nat.le_of_ble_eq_true rfl) rfl rfl ?_
    exact h
set_option maxRecDepth 20000 in
theorem r_Model_checkStates_64 {d : Nat} {V : ax_V} {Φ : ax_V → Prop} {Θ : ax_V → Prop} {x1 : Int} {x2 : Int} {x3 : Int} {x4 : Int} (hg : ax_g V) (hx1 : ax_rg x1) (hx2 : ax_rg x2) (hx3 : ax_rg x3) (hx4 : ax_rg x4) (h : (0 ≤ x1 ∧ x1 < 351) ∧ ((V 269 x1 ≤ x4 → ((x3 ≤ 0 → k_Model_checkStates_53 d x1 (x2 + 1) (some (ax_i x3)) (some (ax_i x4)) V Φ Θ) ∧ (0 < x3 → (0 ≤ x1 ∧ x1 < 351) ∧ ((V 269 x1 ≤ x3 → k_Model_checkStates_53 d x1 (x2 + 1) (some (ax_i x3)) (some (ax_i x4)) V Φ Θ) ∧ (x3 < V 269 x1 → (0 ≤ x1 ∧ x1 < 351) ∧ ax_N ay_lay d q_Model_note [.ref 222, ax_i (V 268 x1)] V (fun V1 => k_Model_checkStates_53 d x1 (x2 + 1) (some (ax_i x3)) (some (ax_i x4)) V1 Φ Θ) Θ))))) ∧ (x4 < V 269 x1 → ax_I ay_lay d q_Model_isIn [.ref 222, ax_i x1, ax_i x4, ax_i x2] V (fun r2 V2 => ((r2 = 0 → k_Model_checkStates_64 d x1 x2 (x3 + 0) (x4 + 1) V2 Φ Θ) ∧ (¬ r2 = 0 → k_Model_checkStates_64 d x1 x2 (x3 + 1) (x4 + 1) V2 Φ Θ))) Θ))) : k_Model_checkStates_64 d x1 x2 x3 x4 V Φ Θ := by
  refine ax_mv 2 67 [some (.ref 222), some (ax_i x1), some (ax_i x2), some (ax_i x3), some (ax_i x4)] [.ref 222, ax_i x4] rfl ?_
  refine ax_gR (v := .ref 269) (pc' := 70) ⟨_, rfl⟩ fl_12_149 ay_222 rfl rfl ?_
  refine ax_mv 1 71 [some (.ref 222), some (ax_i x1), some (ax_i x2), some (ax_i x3), some (ax_i x4)] [ax_i x1, .ref 269, ax_i x4] rfl ?_
  obtain ⟨o5, h⟩ := h
  refine ax_ild (n := 351) (pc' := 72) ⟨_, rfl⟩ ay_269 (by decide) o5 rfl ?_
  refine ax_if2 (p1 := 100) (p2 := 75) ⟨_, rfl⟩ (by decide) rfl hx4 (hg _ _) (fun hc => ?_) (fun hc => ?_)
  · have h := h.1 hc
    refine ax_mv 1 101 [some (.ref 222), some (ax_i x1), some (ax_i x2), some (ax_i x3), some (ax_i x4)] [ax_i x3] rfl ?_
    refine ax_if (p1 := 124) (p2 := 104) ⟨_, rfl⟩ (by decide) rfl hx3 (fun hc => ?_) (fun hc => ?_)
    · have h := h.1 hc
      refine ax_inc (x := x2) (pc' := 127) (L' := [some (.ref 222), some (ax_i x1), some (ax_i (x2 + 1)), some (ax_i x3), some (ax_i x4)]) ⟨_, rfl⟩ rfl rfl rfl rfl ?_
      refine ax_mv 1 53 [some (.ref 222), some (ax_i x1), some (ax_i (x2 + 1)), some (ax_i x3), some (ax_i x4)] [] rfl ?_
      exact h
    · have h := h.2 (Int.not_le.mp hc)
      refine ax_mv 2 106 [some (.ref 222), some (ax_i x1), some (ax_i x2), some (ax_i x3), some (ax_i x4)] [.ref 222, ax_i x3] rfl ?_
      refine ax_gR (v := .ref 269) (pc' := 109) ⟨_, rfl⟩ fl_12_149 ay_222 rfl rfl ?_
      refine ax_mv 1 110 [some (.ref 222), some (ax_i x1), some (ax_i x2), some (ax_i x3), some (ax_i x4)] [ax_i x1, .ref 269, ax_i x3] rfl ?_
      obtain ⟨o6, h⟩ := h
      refine ax_ild (n := 351) (pc' := 111) ⟨_, rfl⟩ ay_269 (by decide) o6 rfl ?_
      refine ax_if2 (p1 := 124) (p2 := 114) ⟨_, rfl⟩ (by decide) rfl hx3 (hg _ _) (fun hc => ?_) (fun hc => ?_)
      · have h := h.1 hc
        refine ax_inc (x := x2) (pc' := 127) (L' := [some (.ref 222), some (ax_i x1), some (ax_i (x2 + 1)), some (ax_i x3), some (ax_i x4)]) ⟨_, rfl⟩ rfl rfl rfl rfl ?_
        refine ax_mv 1 53 [some (.ref 222), some (ax_i x1), some (ax_i (x2 + 1)), some (ax_i x3), some (ax_i x4)] [] rfl ?_
        exact h
      · have h := h.2 (Int.not_le.mp hc)
        refine ax_mv 2 116 [some (.ref 222), some (ax_i x1), some (ax_i x2), some (ax_i x3), some (ax_i x4)] [.ref 222, .ref 222] rfl ?_
        refine ax_gR (v := .ref 268) (pc' := 119) ⟨_, rfl⟩ fl_12_146 ay_222 rfl rfl ?_
        refine ax_mv 1 120 [some (.ref 222), some (ax_i x1), some (ax_i x2), some (ax_i x3), some (ax_i x4)] [ax_i x1, .ref 268, .ref 222] rfl ?_
        obtain ⟨o7, h⟩ := h
        refine ax_ild (n := 351) (pc' := 121) ⟨_, rfl⟩ ay_268 (by decide) o7 rfl ?_
        refine ax_callN (pc' := 124) ⟨_, rfl⟩ ml_12_433 (rest := []) rfl (fun ss hs => ⟨_, _, ay_222 ss hs⟩) (Nat.le_of_ble_eq_true rfl) rfl rfl h (fun V1 hg1 h => ?_)
        refine ax_inc (x := x2) (pc' := 127) (L' := [some (.ref 222), some (ax_i x1), some (ax_i (x2 + 1)), some (ax_i x3), some (ax_i x4)]) ⟨_, rfl⟩ rfl rfl rfl rfl ?_
        refine ax_mv 1 53 [some (.ref 222), some (ax_i x1), some (ax_i (x2 + 1)), some (ax_i x3), some (ax_i x4)] [] rfl ?_
        exact h
  · have h := h.2 (Int.not_le.mp hc)
    refine ax_mv 5 81 [some (.ref 222), some (ax_i x1), some (ax_i x2), some (ax_i x3), some (ax_i x4)] [ax_i x2, ax_i x4, ax_i x1, .ref 222, ax_i x3] rfl ?_
    refine ax_callI (pc' := 84) ⟨_, rfl⟩ ml_12_478 (rest := [ax_i x3]) rfl (fun ss hs => ⟨_, _, ay_222 ss hs⟩) (Nat.le_of_ble_eq_true rfl) rfl rfl h (fun r2 V2 hg2 hr2 h => ?_)
    refine ax_if (p1 := 91) (p2 := 87) ⟨_, rfl⟩ (by decide) rfl hr2 (fun hc => ?_) (fun hc => ?_)
    · have h := h.1 hc
      refine ax_mv 1 92 [some (.ref 222), some (ax_i x1), some (ax_i x2), some (ax_i x3), some (ax_i x4)] [ax_i 0, ax_i x3] rfl ?_
      refine ax_add (pc' := 93) ⟨_, rfl⟩ rfl ?_
      refine ax_sti (i := 0) (k := 3) (n := 1) (pc' := 94) (L' := [some (.ref 222), some (ax_i x1), some (ax_i x2), some (ax_i (x3 + 0)), some (ax_i x4)]) ⟨_, rfl⟩ rfl rfl rfl (Nat.le_of_ble_eq_true rfl) rfl rfl ?_
      refine ax_inc (x := x4) (pc' := 97) (L' := [some (.ref 222), some (ax_i x1), some (ax_i x2), some (ax_i (x3 + 0)), some (ax_i (x4 + 1))]) ⟨_, rfl⟩ rfl rfl rfl rfl ?_
      refine ax_mv 1 64 [some (.ref 222), some (ax_i x1), some (ax_i x2), some (ax_i (x3 + 0)), some (ax_i (x4 + 1))] [] rfl ?_
      exact h
    · have h := h.2 hc
      refine ax_mv 2 92 [some (.ref 222), some (ax_i x1), some (ax_i x2), some (ax_i x3), some (ax_i x4)] [ax_i 1, ax_i x3] rfl ?_
      refine ax_add (pc' := 93) ⟨_, rfl⟩ rfl ?_
      refine ax_sti (i := 0) (k := 3) (n := 1) (pc' := 94) (L' := [some (.ref 222), some (ax_i x1), some (ax_i x2), some (ax_i (x3 + 1)), some (ax_i x4)]) ⟨_, rfl⟩ rfl rfl rfl (Nat.le_of_ble_eq_true rfl) rfl rfl ?_
      refine ax_inc (x := x4) (pc' := 97) (L' := [some (.ref 222), some (ax_i x1), some (ax_i x2), some (ax_i (x3 + 1)), some (ax_i (x4 + 1))]) ⟨_, rfl⟩ rfl rfl rfl rfl ?_
      refine ax_mv 1 64 [some (.ref 222), some (ax_i x1), some (ax_i x2), some (ax_i (x3 + 1)), some (ax_i (x4 + 1))] [] rfl ?_
      exact h
set_option maxRecDepth 20000 in
theorem r_Model_checkStates {d : Nat} {V : ax_V} {Φ : ax_V → Prop} {Θ : ax_V → Prop} {x1 : Int} (hg : ax_g V) (hx1 : ax_rg x1) (h : k_Model_checkStates_2 d x1 0 none none V Φ Θ) : ax_N ay_lay (d + 1) q_Model_checkStates [.ref 222, ax_i x1] V Φ Θ := by
  refine ax_T.of (M := m_Model_checkStates) rfl (Nat.le_of_ble_eq_true rfl) ?_
  refine ax_mv 0 0 [some (.ref 222), some (ax_i x1), none, none, none] [] rfl ?_
  refine ax_mv 1 1 [some (.ref 222), some (ax_i x1), none, none, none] [ax_i 0] rfl ?_
  refine ax_sti (i := 0) (k := 2) (n := 1) (pc' := 2) (L' := [some (.ref 222), some (ax_i x1), some (ax_i 0), none, none]) ⟨_, rfl⟩ rfl rfl rfl (Nat.le_of_ble_eq_true rfl) rfl rfl ?_
  exact h
abbrev k_Model_isIn_3 (d : Nat) (x1 : Int) (x2 : Int) (x3 : Int) (x4 : Int) (V : ax_V) (Φ : Int → ax_V → Prop) (Θ : ax_V → Prop) : Prop := ax_R ay_lay ax_t d m_Model_isIn 3 [some (.ref 222), some (ax_i x1), some (ax_i x2), some (ax_i x3), some (ax_i x4)] [] V (ax_Ir Φ) Θ
theorem r_Model_isIn_3 {d : Nat} {V : ax_V} {Φ : Int → ax_V → Prop} {Θ : ax_V → Prop} {x1 : Int} {x2 : Int} {x3 : Int} {x4 : Int} (hg : ax_g V) (hx1 : ax_rg x1) (hx2 : ax_rg x2) (hx3 : ax_rg x3) (hx4 : ax_rg x4) (h : ((V 222 44 ≤ x4 → Φ 0 V) ∧ (x4 < V 222 44 → (0 ≤ x4 ∧ x4 < 351) ∧ ((V 263 x4 = x1 → (0 ≤ x4 ∧ x4 < 351) ∧ ((V 264 x4 = x2 → ax_I ay_lay d q_Model_hasLeft [.ref 222, ax_i x4, ax_i x3] V (fun r1 V1 => ((r1 = 0 → k_Model_isIn_3 d x1 x2 x3 (x4 + 1) V1 Φ Θ) ∧ (¬ r1 = 0 → Φ 1 V1))) Θ) ∧ (¬ V 264 x4 = x2 → k_Model_isIn_3 d x1 x2 x3 (x4 + 1) V Φ Θ))) ∧ (¬ V 263 x4 = x1 → k_Model_isIn_3 d x1 x2 x3 (x4 + 1) V Φ Θ))))) : k_Model_isIn_3 d x1 x2 x3 x4 V Φ Θ := by
  refine ax_mv 2 6 [some (.ref 222), some (ax_i x1), some (ax_i x2), some (ax_i x3), some (ax_i x4)] [.ref 222, ax_i x4] rfl ?_
  refine ax_gI (kI := 44) (pc' := 9) ⟨_, rfl⟩ fl_12_414 ay_222 rfl rfl rfl ?_
  refine ax_if2 (p1 := 52) (p2 := 12) ⟨_, rfl⟩ (by decide) rfl hx4 (hg _ _) (fun hc => ?_) (fun hc => ?_)
  · have h := h.1 hc
    refine ax_mv 1 53 [some (.ref 222), some (ax_i x1), some (ax_i x2), some (ax_i x3), some (ax_i x4)] [ax_i 0] rfl ?_
    exact ax_iret ⟨_, rfl⟩ rfl (ax_nbv (by decide)) (by decide) hg h
  · have h := h.2 (Int.not_le.mp hc)
    refine ax_mv 1 13 [some (.ref 222), some (ax_i x1), some (ax_i x2), some (ax_i x3), some (ax_i x4)] [.ref 222] rfl ?_
    refine ax_gR (v := .ref 263) (pc' := 16) ⟨_, rfl⟩ fl_12_131 ay_222 rfl rfl ?_
    refine ax_mv 1 18 [some (.ref 222), some (ax_i x1), some (ax_i x2), some (ax_i x3), some (ax_i x4)] [ax_i x4, .ref 263] rfl ?_
    obtain ⟨o1, h⟩ := h
    refine ax_ild (n := 351) (pc' := 19) ⟨_, rfl⟩ ay_263 (by decide) o1 rfl ?_
    refine ax_mv 1 20 [some (.ref 222), some (ax_i x1), some (ax_i x2), some (ax_i x3), some (ax_i x4)] [ax_i x1, ax_i (V 263 x4)] rfl ?_
    refine ax_if2 (p1 := 46) (p2 := 23) ⟨_, rfl⟩ (by decide) rfl (hg _ _) hx1 (fun hc => ?_) (fun hc => ?_)
    · have h := h.2 hc
      refine ax_inc (x := x4) (pc' := 49) (L' := [some (.ref 222), some (ax_i x1), some (ax_i x2), some (ax_i x3), some (ax_i (x4 + 1))]) ⟨_, rfl⟩ rfl rfl rfl rfl ?_
      refine ax_mv 1 3 [some (.ref 222), some (ax_i x1), some (ax_i x2), some (ax_i x3), some (ax_i (x4 + 1))] [] rfl ?_
      exact h
    · have h := h.1 (Classical.not_not.mp hc)
      refine ax_mv 1 24 [some (.ref 222), some (ax_i x1), some (ax_i x2), some (ax_i x3), some (ax_i x4)] [.ref 222] rfl ?_
      refine ax_gR (v := .ref 264) (pc' := 27) ⟨_, rfl⟩ fl_12_134 ay_222 rfl rfl ?_
      refine ax_mv 1 29 [some (.ref 222), some (ax_i x1), some (ax_i x2), some (ax_i x3), some (ax_i x4)] [ax_i x4, .ref 264] rfl ?_
      obtain ⟨o2, h⟩ := h
      refine ax_ild (n := 351) (pc' := 30) ⟨_, rfl⟩ ay_264 (by decide) o2 rfl ?_
      refine ax_mv 1 31 [some (.ref 222), some (ax_i x1), some (ax_i x2), some (ax_i x3), some (ax_i x4)] [ax_i x2, ax_i (V 264 x4)] rfl ?_
      refine ax_if2 (p1 := 46) (p2 := 34) ⟨_, rfl⟩ (by decide) rfl (hg _ _) hx2 (fun hc => ?_) (fun hc => ?_)
      · have h := h.2 hc
        refine ax_inc (x := x4) (pc' := 49) (L' := [some (.ref 222), some (ax_i x1), some (ax_i x2), some (ax_i x3), some (ax_i (x4 + 1))]) ⟨_, rfl⟩ rfl rfl rfl rfl ?_
        refine ax_mv 1 3 [some (.ref 222), some (ax_i x1), some (ax_i x2), some (ax_i x3), some (ax_i (x4 + 1))] [] rfl ?_
        exact h
      · have h := h.1 (Classical.not_not.mp hc)
        refine ax_mv 3 38 [some (.ref 222), some (ax_i x1), some (ax_i x2), some (ax_i x3), some (ax_i x4)] [ax_i x3, ax_i x4, .ref 222] rfl ?_
        refine ax_callI (pc' := 41) ⟨_, rfl⟩ ml_12_469 (rest := []) rfl (fun ss hs => ⟨_, _, ay_222 ss hs⟩) (Nat.le_of_ble_eq_true rfl) rfl rfl h (fun r1 V1 hg1 hr1 h => ?_)
        refine ax_if (p1 := 46) (p2 := 44) ⟨_, rfl⟩ (by decide) rfl hr1 (fun hc => ?_) (fun hc => ?_)
        · have h := h.1 hc
          refine ax_inc (x := x4) (pc' := 49) (L' := [some (.ref 222), some (ax_i x1), some (ax_i x2), some (ax_i x3), some (ax_i (x4 + 1))]) ⟨_, rfl⟩ rfl rfl rfl rfl ?_
          refine ax_mv 1 3 [some (.ref 222), some (ax_i x1), some (ax_i x2), some (ax_i x3), some (ax_i (x4 + 1))] [] rfl ?_
          exact h
        · have h := h.2 hc
          refine ax_mv 1 45 [some (.ref 222), some (ax_i x1), some (ax_i x2), some (ax_i x3), some (ax_i x4)] [ax_i 1] rfl ?_
          exact ax_iret ⟨_, rfl⟩ rfl (ax_nbv (by decide)) (by decide) hg1 h
theorem r_Model_isIn {d : Nat} {V : ax_V} {Φ : Int → ax_V → Prop} {Θ : ax_V → Prop} {x1 : Int} {x2 : Int} {x3 : Int} (hg : ax_g V) (hx1 : ax_rg x1) (hx2 : ax_rg x2) (hx3 : ax_rg x3) (h : k_Model_isIn_3 d x1 x2 x3 0 V Φ Θ) : ax_I ay_lay (d + 1) q_Model_isIn [.ref 222, ax_i x1, ax_i x2, ax_i x3] V Φ Θ := by
  refine ax_T.of (M := m_Model_isIn) rfl (Nat.le_of_ble_eq_true rfl) ?_
  refine ax_mv 0 0 [some (.ref 222), some (ax_i x1), some (ax_i x2), some (ax_i x3), none] [] rfl ?_
  refine ax_mv 1 1 [some (.ref 222), some (ax_i x1), some (ax_i x2), some (ax_i x3), none] [ax_i 0] rfl ?_
  refine ax_sti (i := 0) (k := 4) (n := 2) (pc' := 3) (L' := [some (.ref 222), some (ax_i x1), some (ax_i x2), some (ax_i x3), some (ax_i 0)]) ⟨_, rfl⟩ rfl rfl rfl (Nat.le_of_ble_eq_true rfl) rfl rfl ?_
  exact h
abbrev k_Model_findTypes_2 (d : Nat) (x1 : Int) (V : ax_V) (Φ : ax_V → Prop) (Θ : ax_V → Prop) : Prop := ax_R ay_lay ax_t d m_Model_findTypes 2 [some (.ref 222), some (ax_i x1)] [] V (ax_Nr Φ) Θ
set_option maxRecDepth 20000 in
theorem r_Model_findTypes_2 {d : Nat} {V : ax_V} {Φ : ax_V → Prop} {Θ : ax_V → Prop} {x1 : Int} (hg : ax_g V) (hx1 : ax_rg x1) (h : ((V 222 26 ≤ x1 → Φ V) ∧ (x1 < V 222 26 → (0 ≤ x1 ∧ x1 < 701) ∧ (((V 241 x1 = 0 ∨ V 241 x1 = 4 ∨ V 241 x1 = 7 ∨ V 241 x1 = 8 ∨ V 241 x1 = 9 ∨ V 241 x1 = 10 ∨ V 241 x1 = 11) → (0 ≤ x1 ∧ x1 < 701) ∧ (∀ V1, V1 = ax_u V 253 x1 0 → k_Model_findTypes_2 d (x1 + 1) V1 Φ Θ)) ∧ ((V 241 x1 = 1 ∨ V 241 x1 = 5 ∨ V 241 x1 = 12 ∨ V 241 x1 = 13 ∨ V 241 x1 = 14 ∨ V 241 x1 = 15 ∨ V 241 x1 = 16 ∨ V 241 x1 = 17) → (0 ≤ x1 ∧ x1 < 701) ∧ (∀ V2, V2 = ax_u V 253 x1 1 → k_Model_findTypes_2 d (x1 + 1) V2 Φ Θ)) ∧ ((V 241 x1 = 2 ∨ V 241 x1 = 3) → ax_I ay_lay d q_Model_typeOfLetter [.ref 222, ax_i x1] V (fun r3 V3 => (0 ≤ x1 ∧ x1 < 701) ∧ (∀ V4, V4 = ax_u V3 253 x1 r3 → k_Model_findTypes_2 d (x1 + 1) V4 Φ Θ)) Θ) ∧ (V 241 x1 = 18 → (0 ≤ x1 ∧ x1 < 701) ∧ (0 ≤ V 246 x1 ∧ V 246 x1 < 701) ∧ (0 ≤ x1 ∧ x1 < 701) ∧ (∀ V5, V5 = ax_u V 253 x1 (V 253 (V 246 x1)) → k_Model_findTypes_2 d (x1 + 1) V5 Φ Θ)) ∧ (V 241 x1 = 22 → (0 ≤ x1 ∧ x1 < 701) ∧ (0 ≤ x1 ∧ x1 < 701) ∧ (0 ≤ 26 * (V 251 x1) ∧ 26 * (V 251 x1) < 240) ∧ (0 ≤ (26 * (V 251 x1)) + (V 231 (26 * (V 251 x1))) ∧ (26 * (V 251 x1)) + (V 231 (26 * (V 251 x1))) < 240) ∧ (0 ≤ x1 ∧ x1 < 701) ∧ (∀ V6, V6 = ax_u V 253 x1 (V 233 ((26 * (V 251 x1)) + (V 231 (26 * (V 251 x1))))) → k_Model_findTypes_2 d (x1 + 1) V6 Φ Θ)) ∧ (¬ V 241 x1 = 0 → ¬ V 241 x1 = 4 → ¬ V 241 x1 = 7 → ¬ V 241 x1 = 8 → ¬ V 241 x1 = 9 → ¬ V 241 x1 = 10 → ¬ V 241 x1 = 11 → ¬ V 241 x1 = 1 → ¬ V 241 x1 = 5 → ¬ V 241 x1 = 12 → ¬ V 241 x1 = 13 → ¬ V 241 x1 = 14 → ¬ V 241 x1 = 15 → ¬ V 241 x1 = 16 → ¬ V 241 x1 = 17 → ¬ V 241 x1 = 2 → ¬ V 241 x1 = 3 → ¬ V 241 x1 = 18 → ¬ V 241 x1 = 22 → (0 ≤ x1 ∧ x1 < 701) ∧ (0 ≤ V 245 x1 ∧ V 245 x1 < 701) ∧ (0 ≤ x1 ∧ x1 < 701) ∧ (∀ V7, V7 = ax_u V 253 x1 (V 253 (V 245 x1)) → k_Model_findTypes_2 d (x1 + 1) V7 Φ Θ)))))) : k_Model_findTypes_2 d x1 V Φ Θ := by
  refine ax_mv 2 4 [some (.ref 222), some (ax_i x1)] [.ref 222, ax_i x1] rfl ?_
  refine ax_gI (kI := 26) (pc' := 7) ⟨_, rfl⟩ fl_12_317 ay_222 rfl rfl rfl ?_
  refine ax_if2 (p1 := 239) (p2 := 10) ⟨_, rfl⟩ (by decide) rfl hx1 (hg _ _) (fun hc => ?_) (fun hc => ?_)
  · have h := h.1 hc
    exact ax_nret ⟨_, rfl⟩ rfl hg h
  · have h := h.2 (Int.not_le.mp hc)
    refine ax_mv 1 11 [some (.ref 222), some (ax_i x1)] [.ref 222] rfl ?_
    refine ax_gR (v := .ref 241) (pc' := 14) ⟨_, rfl⟩ fl_12_65 ay_222 rfl rfl ?_
    refine ax_mv 1 15 [some (.ref 222), some (ax_i x1)] [ax_i x1, .ref 241] rfl ?_
    obtain ⟨o1, h⟩ := h
    refine ax_ild (n := 701) (pc' := 16) ⟨_, rfl⟩ ay_241 (by decide) o1 rfl ?_
    have t0 : (V 241 x1 = 0 ∨ V 241 x1 = 4 ∨ V 241 x1 = 7 ∨ V 241 x1 = 8 ∨ V 241 x1 = 9 ∨ V 241 x1 = 10 ∨ V 241 x1 = 11) → ax_R ay_lay ax_t d m_Model_findTypes 138 [some (.ref 222), some (ax_i x1)] [] V (ax_Nr Φ) Θ := fun hk => by
      have h := h.1 hk
      refine ax_mv 1 139 [some (.ref 222), some (ax_i x1)] [.ref 222] rfl ?_
      refine ax_gR (v := .ref 253) (pc' := 142) ⟨_, rfl⟩ fl_12_101 ay_222 rfl rfl ?_
      refine ax_mv 2 144 [some (.ref 222), some (ax_i x1)] [ax_i 0, ax_i x1, .ref 253] rfl ?_
      obtain ⟨o2, h⟩ := h
      obtain ⟨V1, eV1⟩ : ∃ W9 : ax_V, W9 = ax_u V 253 x1 0 := ⟨_, rfl⟩
      have h := h V1 eV1
      have hg1 : ax_g V1 := eV1 ▸ ax_u_g hg (by decide)
      refine ax_ist (n := 701) (pc' := 145) ⟨_, rfl⟩ ay_ok ay_253 (by decide) o2 eV1 rfl ?_
      refine ax_mv 1 233 [some (.ref 222), some (ax_i x1)] [] rfl ?_
      refine ax_inc (x := x1) (pc' := 236) (L' := [some (.ref 222), some (ax_i (x1 + 1))]) ⟨_, rfl⟩ rfl rfl rfl rfl ?_
      refine ax_mv 1 2 [some (.ref 222), some (ax_i (x1 + 1))] [] rfl ?_
      exact h
    have t1 : (V 241 x1 = 1 ∨ V 241 x1 = 5 ∨ V 241 x1 = 12 ∨ V 241 x1 = 13 ∨ V 241 x1 = 14 ∨ V 241 x1 = 15 ∨ V 241 x1 = 16 ∨ V 241 x1 = 17) → ax_R ay_lay ax_t d m_Model_findTypes 148 [some (.ref 222), some (ax_i x1)] [] V (ax_Nr Φ) Θ := fun hk => by
      have h := h.2.1 hk
      refine ax_mv 1 149 [some (.ref 222), some (ax_i x1)] [.ref 222] rfl ?_
      refine ax_gR (v := .ref 253) (pc' := 152) ⟨_, rfl⟩ fl_12_101 ay_222 rfl rfl ?_
      refine ax_mv 2 154 [some (.ref 222), some (ax_i x1)] [ax_i 1, ax_i x1, .ref 253] rfl ?_
      obtain ⟨o3, h⟩ := h
      obtain ⟨V2, eV2⟩ : ∃ W9 : ax_V, W9 = ax_u V 253 x1 1 := ⟨_, rfl⟩
      have h := h V2 eV2
      have hg2 : ax_g V2 := eV2 ▸ ax_u_g hg (by decide)
      refine ax_ist (n := 701) (pc' := 155) ⟨_, rfl⟩ ay_ok ay_253 (by decide) o3 eV2 rfl ?_
      refine ax_mv 1 233 [some (.ref 222), some (ax_i x1)] [] rfl ?_
      refine ax_inc (x := x1) (pc' := 236) (L' := [some (.ref 222), some (ax_i (x1 + 1))]) ⟨_, rfl⟩ rfl rfl rfl rfl ?_
      refine ax_mv 1 2 [some (.ref 222), some (ax_i (x1 + 1))] [] rfl ?_
      exact h
    have t2 : (V 241 x1 = 2 ∨ V 241 x1 = 3) → ax_R ay_lay ax_t d m_Model_findTypes 124 [some (.ref 222), some (ax_i x1)] [] V (ax_Nr Φ) Θ := fun hk => by
      have h := h.2.2.1 hk
      refine ax_mv 1 125 [some (.ref 222), some (ax_i x1)] [.ref 222] rfl ?_
      refine ax_gR (v := .ref 253) (pc' := 128) ⟨_, rfl⟩ fl_12_101 ay_222 rfl rfl ?_
      refine ax_mv 3 131 [some (.ref 222), some (ax_i x1)] [ax_i x1, .ref 222, ax_i x1, .ref 253] rfl ?_
      refine ax_callI (pc' := 134) ⟨_, rfl⟩ ml_12_481 (rest := [ax_i x1, .ref 253]) rfl (fun ss hs => ⟨_, _, ay_222 ss hs⟩) (Nat.le_of_ble_eq_true rfl) rfl rfl h (fun r3 V3 hg3 hr3 h => ?_)
      obtain ⟨o4, h⟩ := h
      obtain ⟨V4, eV4⟩ : ∃ W9 : ax_V, W9 = ax_u V3 253 x1 r3 := ⟨_, rfl⟩
      have h := h V4 eV4
      have hg4 : ax_g V4 := eV4 ▸ ax_u_g hg3 hr3
      refine ax_ist (n := 701) (pc' := 135) ⟨_, rfl⟩ ay_ok ay_253 (by decide) o4 eV4 rfl ?_
      refine ax_mv 1 233 [some (.ref 222), some (ax_i x1)] [] rfl ?_
      refine ax_inc (x := x1) (pc' := 236) (L' := [some (.ref 222), some (ax_i (x1 + 1))]) ⟨_, rfl⟩ rfl rfl rfl rfl ?_
      refine ax_mv 1 2 [some (.ref 222), some (ax_i (x1 + 1))] [] rfl ?_
      exact h
    have t3 : (V 241 x1 = 18) → ax_R ay_lay ax_t d m_Model_findTypes 158 [some (.ref 222), some (ax_i x1)] [] V (ax_Nr Φ) Θ := fun hk => by
      have h := h.2.2.2.1 hk
      refine ax_mv 1 159 [some (.ref 222), some (ax_i x1)] [.ref 222] rfl ?_
      refine ax_gR (v := .ref 253) (pc' := 162) ⟨_, rfl⟩ fl_12_101 ay_222 rfl rfl ?_
      refine ax_mv 2 164 [some (.ref 222), some (ax_i x1)] [.ref 222, ax_i x1, .ref 253] rfl ?_
      refine ax_gR (v := .ref 253) (pc' := 167) ⟨_, rfl⟩ fl_12_101 ay_222 rfl rfl ?_
      refine ax_mv 1 168 [some (.ref 222), some (ax_i x1)] [.ref 222, .ref 253, ax_i x1, .ref 253] rfl ?_
      refine ax_gR (v := .ref 246) (pc' := 171) ⟨_, rfl⟩ fl_12_80 ay_222 rfl rfl ?_
      refine ax_mv 1 172 [some (.ref 222), some (ax_i x1)] [ax_i x1, .ref 246, .ref 253, ax_i x1, .ref 253] rfl ?_
      obtain ⟨o5, h⟩ := h
      refine ax_ild (n := 701) (pc' := 173) ⟨_, rfl⟩ ay_246 (by decide) o5 rfl ?_
      obtain ⟨o6, h⟩ := h
      refine ax_ild (n := 701) (pc' := 174) ⟨_, rfl⟩ ay_253 (by decide) o6 rfl ?_
      obtain ⟨o7, h⟩ := h
      obtain ⟨V5, eV5⟩ : ∃ W9 : ax_V, W9 = ax_u V 253 x1 (V 253 (V 246 x1)) := ⟨_, rfl⟩
      have h := h V5 eV5
      have hg5 : ax_g V5 := eV5 ▸ ax_u_g hg (hg _ _)
      refine ax_ist (n := 701) (pc' := 175) ⟨_, rfl⟩ ay_ok ay_253 (by decide) o7 eV5 rfl ?_
      refine ax_mv 1 233 [some (.ref 222), some (ax_i x1)] [] rfl ?_
      refine ax_inc (x := x1) (pc' := 236) (L' := [some (.ref 222), some (ax_i (x1 + 1))]) ⟨_, rfl⟩ rfl rfl rfl rfl ?_
      refine ax_mv 1 2 [some (.ref 222), some (ax_i (x1 + 1))] [] rfl ?_
      exact h
    have t4 : (V 241 x1 = 22) → ax_R ay_lay ax_t d m_Model_findTypes 178 [some (.ref 222), some (ax_i x1)] [] V (ax_Nr Φ) Θ := fun hk => by
      have h := h.2.2.2.2.1 hk
      refine ax_mv 1 179 [some (.ref 222), some (ax_i x1)] [.ref 222] rfl ?_
      refine ax_gR (v := .ref 253) (pc' := 182) ⟨_, rfl⟩ fl_12_101 ay_222 rfl rfl ?_
      refine ax_mv 2 184 [some (.ref 222), some (ax_i x1)] [.ref 222, ax_i x1, .ref 253] rfl ?_
      refine ax_gR (v := .ref 233) (pc' := 187) ⟨_, rfl⟩ fl_12_40 ay_222 rfl rfl ?_
      refine ax_bip (pc' := 189) ⟨_, rfl⟩ (by decide) rfl ?_
      refine ax_mv 1 190 [some (.ref 222), some (ax_i x1)] [.ref 222, ax_i 26, .ref 233, ax_i x1, .ref 253] rfl ?_
      refine ax_gR (v := .ref 251) (pc' := 193) ⟨_, rfl⟩ fl_12_95 ay_222 rfl rfl ?_
      refine ax_mv 1 194 [some (.ref 222), some (ax_i x1)] [ax_i x1, .ref 251, ax_i 26, .ref 233, ax_i x1, .ref 253] rfl ?_
      obtain ⟨o8, h⟩ := h
      refine ax_ild (n := 701) (pc' := 195) ⟨_, rfl⟩ ay_251 (by decide) o8 rfl ?_
      refine ax_mul (pc' := 196) ⟨_, rfl⟩ rfl ?_
      refine ax_mv 1 197 [some (.ref 222), some (ax_i x1)] [.ref 222, ax_i (26 * (V 251 x1)), .ref 233, ax_i x1, .ref 253] rfl ?_
      refine ax_gR (v := .ref 231) (pc' := 200) ⟨_, rfl⟩ fl_12_34 ay_222 rfl rfl ?_
      refine ax_bip (pc' := 202) ⟨_, rfl⟩ (by decide) rfl ?_
      refine ax_mv 1 203 [some (.ref 222), some (ax_i x1)] [.ref 222, ax_i 26, .ref 231, ax_i (26 * (V 251 x1)), .ref 233, ax_i x1, .ref 253] rfl ?_
      refine ax_gR (v := .ref 251) (pc' := 206) ⟨_, rfl⟩ fl_12_95 ay_222 rfl rfl ?_
      refine ax_mv 1 207 [some (.ref 222), some (ax_i x1)] [ax_i x1, .ref 251, ax_i 26, .ref 231, ax_i (26 * (V 251 x1)), .ref 233, ax_i x1, .ref 253] rfl ?_
      obtain ⟨o9, h⟩ := h
      refine ax_ild (n := 701) (pc' := 208) ⟨_, rfl⟩ ay_251 (by decide) o9 rfl ?_
      refine ax_mul (pc' := 209) ⟨_, rfl⟩ rfl ?_
      obtain ⟨o10, h⟩ := h
      refine ax_ild (n := 240) (pc' := 210) ⟨_, rfl⟩ ay_231 (by decide) o10 rfl ?_
      refine ax_add (pc' := 211) ⟨_, rfl⟩ rfl ?_
      obtain ⟨o11, h⟩ := h
      refine ax_ild (n := 240) (pc' := 212) ⟨_, rfl⟩ ay_233 (by decide) o11 rfl ?_
      obtain ⟨o12, h⟩ := h
      obtain ⟨V6, eV6⟩ : ∃ W9 : ax_V, W9 = ax_u V 253 x1 (V 233 ((26 * (V 251 x1)) + (V 231 (26 * (V 251 x1))))) := ⟨_, rfl⟩
      have h := h V6 eV6
      have hg6 : ax_g V6 := eV6 ▸ ax_u_g hg (hg _ _)
      refine ax_ist (n := 701) (pc' := 213) ⟨_, rfl⟩ ay_ok ay_253 (by decide) o12 eV6 rfl ?_
      refine ax_mv 1 233 [some (.ref 222), some (ax_i x1)] [] rfl ?_
      refine ax_inc (x := x1) (pc' := 236) (L' := [some (.ref 222), some (ax_i (x1 + 1))]) ⟨_, rfl⟩ rfl rfl rfl rfl ?_
      refine ax_mv 1 2 [some (.ref 222), some (ax_i (x1 + 1))] [] rfl ?_
      exact h
    have tD : ¬ V 241 x1 = 0 → ¬ V 241 x1 = 4 → ¬ V 241 x1 = 7 → ¬ V 241 x1 = 8 → ¬ V 241 x1 = 9 → ¬ V 241 x1 = 10 → ¬ V 241 x1 = 11 → ¬ V 241 x1 = 1 → ¬ V 241 x1 = 5 → ¬ V 241 x1 = 12 → ¬ V 241 x1 = 13 → ¬ V 241 x1 = 14 → ¬ V 241 x1 = 15 → ¬ V 241 x1 = 16 → ¬ V 241 x1 = 17 → ¬ V 241 x1 = 2 → ¬ V 241 x1 = 3 → ¬ V 241 x1 = 18 → ¬ V 241 x1 = 22 → ax_R ay_lay ax_t d m_Model_findTypes 216 [some (.ref 222), some (ax_i x1)] [] V (ax_Nr Φ) Θ := fun n0 n1 n2 n3 n4 n5 n6 n7 n8 n9 n10 n11 n12 n13 n14 n15 n16 n17 n18 => by
      have h := h.2.2.2.2.2 n0 n1 n2 n3 n4 n5 n6 n7 n8 n9 n10 n11 n12 n13 n14 n15 n16 n17 n18
      refine ax_mv 1 217 [some (.ref 222), some (ax_i x1)] [.ref 222] rfl ?_
      refine ax_gR (v := .ref 253) (pc' := 220) ⟨_, rfl⟩ fl_12_101 ay_222 rfl rfl ?_
      refine ax_mv 2 222 [some (.ref 222), some (ax_i x1)] [.ref 222, ax_i x1, .ref 253] rfl ?_
      refine ax_gR (v := .ref 253) (pc' := 225) ⟨_, rfl⟩ fl_12_101 ay_222 rfl rfl ?_
      refine ax_mv 1 226 [some (.ref 222), some (ax_i x1)] [.ref 222, .ref 253, ax_i x1, .ref 253] rfl ?_
      refine ax_gR (v := .ref 245) (pc' := 229) ⟨_, rfl⟩ fl_12_77 ay_222 rfl rfl ?_
      refine ax_mv 1 230 [some (.ref 222), some (ax_i x1)] [ax_i x1, .ref 245, .ref 253, ax_i x1, .ref 253] rfl ?_
      obtain ⟨o13, h⟩ := h
      refine ax_ild (n := 701) (pc' := 231) ⟨_, rfl⟩ ay_245 (by decide) o13 rfl ?_
      obtain ⟨o14, h⟩ := h
      refine ax_ild (n := 701) (pc' := 232) ⟨_, rfl⟩ ay_253 (by decide) o14 rfl ?_
      obtain ⟨o15, h⟩ := h
      obtain ⟨V7, eV7⟩ : ∃ W9 : ax_V, W9 = ax_u V 253 x1 (V 253 (V 245 x1)) := ⟨_, rfl⟩
      have h := h V7 eV7
      have hg7 : ax_g V7 := eV7 ▸ ax_u_g hg (hg _ _)
      refine ax_ist (n := 701) (pc' := 233) ⟨_, rfl⟩ ay_ok ay_253 (by decide) o15 eV7 rfl ?_
      refine ax_inc (x := x1) (pc' := 236) (L' := [some (.ref 222), some (ax_i (x1 + 1))]) ⟨_, rfl⟩ rfl rfl rfl rfl ?_
      refine ax_mv 1 2 [some (.ref 222), some (ax_i (x1 + 1))] [] rfl ?_
      exact h
    by_cases e0 : V 241 x1 = 0
    · exact ax_tsC (off := 122) (p1 := 138) ⟨_, rfl⟩ (hg _ _) (by omega) (by omega) (by rw [e0]; rfl) (by decide) (t0 (Or.inl e0))
    by_cases e1 : V 241 x1 = 1
    · exact ax_tsC (off := 132) (p1 := 148) ⟨_, rfl⟩ (hg _ _) (by omega) (by omega) (by rw [e1]; rfl) (by decide) (t1 (Or.inl e1))
    by_cases e2 : V 241 x1 = 2
    · exact ax_tsC (off := 108) (p1 := 124) ⟨_, rfl⟩ (hg _ _) (by omega) (by omega) (by rw [e2]; rfl) (by decide) (t2 (Or.inl e2))
    by_cases e3 : V 241 x1 = 3
    · exact ax_tsC (off := 108) (p1 := 124) ⟨_, rfl⟩ (hg _ _) (by omega) (by omega) (by rw [e3]; rfl) (by decide) (t2 (Or.inr (e3)))
    by_cases e4 : V 241 x1 = 4
    · exact ax_tsC (off := 122) (p1 := 138) ⟨_, rfl⟩ (hg _ _) (by omega) (by omega) (by rw [e4]; rfl) (by decide) (t0 (Or.inr (Or.inl e4)))
    by_cases e5 : V 241 x1 = 5
    · exact ax_tsC (off := 132) (p1 := 148) ⟨_, rfl⟩ (hg _ _) (by omega) (by omega) (by rw [e5]; rfl) (by decide) (t1 (Or.inr (Or.inl e5)))
    by_cases e6 : V 241 x1 = 6
    · exact ax_tsC (off := 200) (p1 := 216) ⟨_, rfl⟩ (hg _ _) (by omega) (by omega) (by rw [e6]; rfl) (by decide) (tD (by omega) (by omega) (by omega) (by omega) (by omega) (by omega) (by omega) (by omega) (by omega) (by omega) (by omega) (by omega) (by omega) (by omega) (by omega) (by omega) (by omega) (by omega) (by omega))
    by_cases e7 : V 241 x1 = 7
    · exact ax_tsC (off := 122) (p1 := 138) ⟨_, rfl⟩ (hg _ _) (by omega) (by omega) (by rw [e7]; rfl) (by decide) (t0 (Or.inr (Or.inr (Or.inl e7))))
    by_cases e8 : V 241 x1 = 8
    · exact ax_tsC (off := 122) (p1 := 138) ⟨_, rfl⟩ (hg _ _) (by omega) (by omega) (by rw [e8]; rfl) (by decide) (t0 (Or.inr (Or.inr (Or.inr (Or.inl e8)))))
    by_cases e9 : V 241 x1 = 9
    · exact ax_tsC (off := 122) (p1 := 138) ⟨_, rfl⟩ (hg _ _) (by omega) (by omega) (by rw [e9]; rfl) (by decide) (t0 (Or.inr (Or.inr (Or.inr (Or.inr (Or.inl e9))))))
    by_cases e10 : V 241 x1 = 10
    · exact ax_tsC (off := 122) (p1 := 138) ⟨_, rfl⟩ (hg _ _) (by omega) (by omega) (by rw [e10]; rfl) (by decide) (t0 (Or.inr (Or.inr (Or.inr (Or.inr (Or.inr (Or.inl e10)))))))
    by_cases e11 : V 241 x1 = 11
    · exact ax_tsC (off := 122) (p1 := 138) ⟨_, rfl⟩ (hg _ _) (by omega) (by omega) (by rw [e11]; rfl) (by decide) (t0 (Or.inr (Or.inr (Or.inr (Or.inr (Or.inr (Or.inr (e11))))))))
    by_cases e12 : V 241 x1 = 12
    · exact ax_tsC (off := 132) (p1 := 148) ⟨_, rfl⟩ (hg _ _) (by omega) (by omega) (by rw [e12]; rfl) (by decide) (t1 (Or.inr (Or.inr (Or.inl e12))))
    by_cases e13 : V 241 x1 = 13
    · exact ax_tsC (off := 132) (p1 := 148) ⟨_, rfl⟩ (hg _ _) (by omega) (by omega) (by rw [e13]; rfl) (by decide) (t1 (Or.inr (Or.inr (Or.inr (Or.inl e13)))))
    by_cases e14 : V 241 x1 = 14
    · exact ax_tsC (off := 132) (p1 := 148) ⟨_, rfl⟩ (hg _ _) (by omega) (by omega) (by rw [e14]; rfl) (by decide) (t1 (Or.inr (Or.inr (Or.inr (Or.inr (Or.inl e14))))))
    by_cases e15 : V 241 x1 = 15
    · exact ax_tsC (off := 132) (p1 := 148) ⟨_, rfl⟩ (hg _ _) (by omega) (by omega) (by rw [e15]; rfl) (by decide) (t1 (Or.inr (Or.inr (Or.inr (Or.inr (Or.inr (Or.inl e15)))))))
    by_cases e16 : V 241 x1 = 16
    · exact ax_tsC (off := 132) (p1 := 148) ⟨_, rfl⟩ (hg _ _) (by omega) (by omega) (by rw [e16]; rfl) (by decide) (t1 (Or.inr (Or.inr (Or.inr (Or.inr (Or.inr (Or.inr (Or.inl e16))))))))
    by_cases e17 : V 241 x1 = 17
    · exact ax_tsC (off := 132) (p1 := 148) ⟨_, rfl⟩ (hg _ _) (by omega) (by omega) (by rw [e17]; rfl) (by decide) (t1 (Or.inr (Or.inr (Or.inr (Or.inr (Or.inr (Or.inr (Or.inr (e17)))))))))
    by_cases e18 : V 241 x1 = 18
    · exact ax_tsC (off := 142) (p1 := 158) ⟨_, rfl⟩ (hg _ _) (by omega) (by omega) (by rw [e18]; rfl) (by decide) (t3 (e18))
    by_cases e19 : V 241 x1 = 19
    · exact ax_tsC (off := 200) (p1 := 216) ⟨_, rfl⟩ (hg _ _) (by omega) (by omega) (by rw [e19]; rfl) (by decide) (tD (by omega) (by omega) (by omega) (by omega) (by omega) (by omega) (by omega) (by omega) (by omega) (by omega) (by omega) (by omega) (by omega) (by omega) (by omega) (by omega) (by omega) (by omega) (by omega))
    by_cases e20 : V 241 x1 = 20
    · exact ax_tsC (off := 200) (p1 := 216) ⟨_, rfl⟩ (hg _ _) (by omega) (by omega) (by rw [e20]; rfl) (by decide) (tD (by omega) (by omega) (by omega) (by omega) (by omega) (by omega) (by omega) (by omega) (by omega) (by omega) (by omega) (by omega) (by omega) (by omega) (by omega) (by omega) (by omega) (by omega) (by omega))
    by_cases e21 : V 241 x1 = 21
    · exact ax_tsC (off := 200) (p1 := 216) ⟨_, rfl⟩ (hg _ _) (by omega) (by omega) (by rw [e21]; rfl) (by decide) (tD (by omega) (by omega) (by omega) (by omega) (by omega) (by omega) (by omega) (by omega) (by omega) (by omega) (by omega) (by omega) (by omega) (by omega) (by omega) (by omega) (by omega) (by omega) (by omega))
    by_cases e22 : V 241 x1 = 22
    · exact ax_tsC (off := 162) (p1 := 178) ⟨_, rfl⟩ (hg _ _) (by omega) (by omega) (by rw [e22]; rfl) (by decide) (t4 (e22))
    exact ax_tsD (p1 := 216) ⟨_, rfl⟩ (hg _ _) (by omega) (by decide) (tD e0 e4 e7 e8 e9 e10 e11 e1 e5 e12 e13 e14 e15 e16 e17 e2 e3 e18 e22)
set_option maxRecDepth 20000 in
theorem r_Model_findTypes {d : Nat} {V : ax_V} {Φ : ax_V → Prop} {Θ : ax_V → Prop} (hg : ax_g V) (h : k_Model_findTypes_2 d 0 V Φ Θ) : ax_N ay_lay (d + 1) q_Model_findTypes [.ref 222] V Φ Θ := by
  refine ax_T.of (M := m_Model_findTypes) rfl (Nat.le_of_ble_eq_true rfl) ?_
  refine ax_mv 0 0 [some (.ref 222), none] [] rfl ?_
  refine ax_mv 1 1 [some (.ref 222), none] [ax_i 0] rfl ?_
  refine ax_sti (i := 0) (k := 1) (n := 1) (pc' := 2) (L' := [some (.ref 222), some (ax_i 0)]) ⟨_, rfl⟩ rfl rfl rfl (Nat.le_of_ble_eq_true rfl) rfl rfl ?_
  exact h
theorem r_Model_typeOfLetter {d : Nat} {V : ax_V} {Φ : Int → ax_V → Prop} {Θ : ax_V → Prop} {x1 : Int} (hg : ax_g V) (hx1 : ax_rg x1) (h : (0 ≤ x1 ∧ x1 < 701) ∧ (0 ≤ x1 ∧ x1 < 701) ∧ (0 ≤ (26 * (V 250 x1)) + (V 248 x1) ∧ (26 * (V 250 x1)) + (V 248 x1) < 240) ∧ Φ (V 233 ((26 * (V 250 x1)) + (V 248 x1))) V) : ax_I ay_lay (d + 1) q_Model_typeOfLetter [.ref 222, ax_i x1] V Φ Θ := by
  refine ax_T.of (M := m_Model_typeOfLetter) rfl (Nat.le_of_ble_eq_true rfl) ?_
  refine ax_mv 0 0 [some (.ref 222), some (ax_i x1)] [] rfl ?_
  refine ax_mv 1 1 [some (.ref 222), some (ax_i x1)] [.ref 222] rfl ?_
  refine ax_gR (v := .ref 233) (pc' := 4) ⟨_, rfl⟩ fl_12_40 ay_222 rfl rfl ?_
  refine ax_bip (pc' := 6) ⟨_, rfl⟩ (by decide) rfl ?_
  refine ax_mv 1 7 [some (.ref 222), some (ax_i x1)] [.ref 222, ax_i 26, .ref 233] rfl ?_
  refine ax_gR (v := .ref 250) (pc' := 10) ⟨_, rfl⟩ fl_12_92 ay_222 rfl rfl ?_
  refine ax_mv 1 11 [some (.ref 222), some (ax_i x1)] [ax_i x1, .ref 250, ax_i 26, .ref 233] rfl ?_
  obtain ⟨o1, h⟩ := h
  refine ax_ild (n := 701) (pc' := 12) ⟨_, rfl⟩ ay_250 (by decide) o1 rfl ?_
  refine ax_mul (pc' := 13) ⟨_, rfl⟩ rfl ?_
  refine ax_mv 1 14 [some (.ref 222), some (ax_i x1)] [.ref 222, ax_i (26 * (V 250 x1)), .ref 233] rfl ?_
  refine ax_gR (v := .ref 248) (pc' := 17) ⟨_, rfl⟩ fl_12_86 ay_222 rfl rfl ?_
  refine ax_mv 1 18 [some (.ref 222), some (ax_i x1)] [ax_i x1, .ref 248, ax_i (26 * (V 250 x1)), .ref 233] rfl ?_
  obtain ⟨o2, h⟩ := h
  refine ax_ild (n := 701) (pc' := 19) ⟨_, rfl⟩ ay_248 (by decide) o2 rfl ?_
  refine ax_add (pc' := 20) ⟨_, rfl⟩ rfl ?_
  obtain ⟨o3, h⟩ := h
  refine ax_ild (n := 240) (pc' := 21) ⟨_, rfl⟩ ay_233 (by decide) o3 rfl ?_
  exact ax_iret ⟨_, rfl⟩ rfl rfl (hg _ _) hg h
set_option maxRecDepth 20000 in
theorem r_Model_checkTypes {d : Nat} {V : ax_V} {Φ : ax_V → Prop} {Θ : ax_V → Prop} {x1 : Int} (hg : ax_g V) (hx1 : ax_rg x1) (h : (0 ≤ x1 ∧ x1 < 701) ∧ ((V 241 x1 = 4 → (0 ≤ x1 ∧ x1 < 701) ∧ ax_N ay_lay d q_Model_must [.ref 222, ax_i (V 245 x1), ax_i 0] V (fun V1 => Φ V1) Θ) ∧ (V 241 x1 = 5 → (0 ≤ x1 ∧ x1 < 701) ∧ ax_N ay_lay d q_Model_must [.ref 222, ax_i (V 245 x1), ax_i 1] V (fun V2 => Φ V2) Θ) ∧ ((V 241 x1 = 7 ∨ V 241 x1 = 8 ∨ V 241 x1 = 9 ∨ V 241 x1 = 10 ∨ V 241 x1 = 11 ∨ V 241 x1 = 14 ∨ V 241 x1 = 15) → (0 ≤ x1 ∧ x1 < 701) ∧ ax_N ay_lay d q_Model_must [.ref 222, ax_i (V 245 x1), ax_i 0] V (fun V3 => (0 ≤ x1 ∧ x1 < 701) ∧ ax_N ay_lay d q_Model_must [.ref 222, ax_i (V3 246 x1), ax_i 0] V3 (fun V4 => Φ V4) Θ) Θ) ∧ ((V 241 x1 = 12 ∨ V 241 x1 = 13 ∨ V 241 x1 = 19 ∨ V 241 x1 = 21) → (0 ≤ x1 ∧ x1 < 701) ∧ (0 ≤ x1 ∧ x1 < 701) ∧ (0 ≤ V 245 x1 ∧ V 245 x1 < 701) ∧ ax_N ay_lay d q_Model_must [.ref 222, ax_i (V 246 x1), ax_i (V 253 (V 245 x1))] V (fun V5 => Φ V5) Θ) ∧ ((V 241 x1 = 16 ∨ V 241 x1 = 17) → (0 ≤ x1 ∧ x1 < 701) ∧ ax_N ay_lay d q_Model_must [.ref 222, ax_i (V 245 x1), ax_i 1] V (fun V6 => (0 ≤ x1 ∧ x1 < 701) ∧ ax_N ay_lay d q_Model_must [.ref 222, ax_i (V6 246 x1), ax_i 1] V6 (fun V7 => Φ V7) Θ) Θ) ∧ (V 241 x1 = 18 → (0 ≤ x1 ∧ x1 < 701) ∧ ax_N ay_lay d q_Model_must [.ref 222, ax_i (V 245 x1), ax_i 1] V (fun V8 => (0 ≤ x1 ∧ x1 < 701) ∧ (0 ≤ x1 ∧ x1 < 701) ∧ (0 ≤ V8 246 x1 ∧ V8 246 x1 < 701) ∧ ax_N ay_lay d q_Model_must [.ref 222, ax_i (V8 247 x1), ax_i (V8 253 (V8 246 x1))] V8 (fun V9 => Φ V9) Θ) Θ) ∧ (V 241 x1 = 22 → ax_N ay_lay d q_Model_checkCall [.ref 222, ax_i x1] V (fun V10 => Φ V10) Θ) ∧ (¬ V 241 x1 = 4 → ¬ V 241 x1 = 5 → ¬ V 241 x1 = 7 → ¬ V 241 x1 = 8 → ¬ V 241 x1 = 9 → ¬ V 241 x1 = 10 → ¬ V 241 x1 = 11 → ¬ V 241 x1 = 14 → ¬ V 241 x1 = 15 → ¬ V 241 x1 = 12 → ¬ V 241 x1 = 13 → ¬ V 241 x1 = 19 → ¬ V 241 x1 = 21 → ¬ V 241 x1 = 16 → ¬ V 241 x1 = 17 → ¬ V 241 x1 = 18 → ¬ V 241 x1 = 22 → Φ V))) : ax_N ay_lay (d + 1) q_Model_checkTypes [.ref 222, ax_i x1] V Φ Θ := by
  refine ax_T.of (M := m_Model_checkTypes) rfl (Nat.le_of_ble_eq_true rfl) ?_
  refine ax_mv 0 0 [some (.ref 222), some (ax_i x1)] [] rfl ?_
  refine ax_mv 1 1 [some (.ref 222), some (ax_i x1)] [.ref 222] rfl ?_
  refine ax_gR (v := .ref 241) (pc' := 4) ⟨_, rfl⟩ fl_12_65 ay_222 rfl rfl ?_
  refine ax_mv 1 5 [some (.ref 222), some (ax_i x1)] [ax_i x1, .ref 241] rfl ?_
  obtain ⟨o1, h⟩ := h
  refine ax_ild (n := 701) (pc' := 6) ⟨_, rfl⟩ ay_241 (by decide) o1 rfl ?_
  have t0 : (V 241 x1 = 4) → ax_R ay_lay ax_t d m_Model_checkTypes 96 [some (.ref 222), some (ax_i x1)] [] V (ax_Nr Φ) Θ := fun hk => by
    have h := h.1 hk
    refine ax_mv 2 98 [some (.ref 222), some (ax_i x1)] [.ref 222, .ref 222] rfl ?_
    refine ax_gR (v := .ref 245) (pc' := 101) ⟨_, rfl⟩ fl_12_77 ay_222 rfl rfl ?_
    refine ax_mv 1 102 [some (.ref 222), some (ax_i x1)] [ax_i x1, .ref 245, .ref 222] rfl ?_
    obtain ⟨o2, h⟩ := h
    refine ax_ild (n := 701) (pc' := 103) ⟨_, rfl⟩ ay_245 (by decide) o2 rfl ?_
    refine ax_mv 1 104 [some (.ref 222), some (ax_i x1)] [ax_i 0, ax_i (V 245 x1), .ref 222] rfl ?_
    refine ax_callN (pc' := 107) ⟨_, rfl⟩ ml_12_484 (rest := []) rfl (fun ss hs => ⟨_, _, ay_222 ss hs⟩) (Nat.le_of_ble_eq_true rfl) rfl rfl h (fun V1 hg1 h => ?_)
    refine ax_mv 1 241 [some (.ref 222), some (ax_i x1)] [] rfl ?_
    exact ax_nret ⟨_, rfl⟩ rfl hg1 h
  have t1 : (V 241 x1 = 5) → ax_R ay_lay ax_t d m_Model_checkTypes 110 [some (.ref 222), some (ax_i x1)] [] V (ax_Nr Φ) Θ := fun hk => by
    have h := h.2.1 hk
    refine ax_mv 2 112 [some (.ref 222), some (ax_i x1)] [.ref 222, .ref 222] rfl ?_
    refine ax_gR (v := .ref 245) (pc' := 115) ⟨_, rfl⟩ fl_12_77 ay_222 rfl rfl ?_
    refine ax_mv 1 116 [some (.ref 222), some (ax_i x1)] [ax_i x1, .ref 245, .ref 222] rfl ?_
    obtain ⟨o3, h⟩ := h
    refine ax_ild (n := 701) (pc' := 117) ⟨_, rfl⟩ ay_245 (by decide) o3 rfl ?_
    refine ax_mv 1 118 [some (.ref 222), some (ax_i x1)] [ax_i 1, ax_i (V 245 x1), .ref 222] rfl ?_
    refine ax_callN (pc' := 121) ⟨_, rfl⟩ ml_12_484 (rest := []) rfl (fun ss hs => ⟨_, _, ay_222 ss hs⟩) (Nat.le_of_ble_eq_true rfl) rfl rfl h (fun V2 hg2 h => ?_)
    refine ax_mv 1 241 [some (.ref 222), some (ax_i x1)] [] rfl ?_
    exact ax_nret ⟨_, rfl⟩ rfl hg2 h
  have t2 : (V 241 x1 = 7 ∨ V 241 x1 = 8 ∨ V 241 x1 = 9 ∨ V 241 x1 = 10 ∨ V 241 x1 = 11 ∨ V 241 x1 = 14 ∨ V 241 x1 = 15) → ax_R ay_lay ax_t d m_Model_checkTypes 124 [some (.ref 222), some (ax_i x1)] [] V (ax_Nr Φ) Θ := fun hk => by
    have h := h.2.2.1 hk
    refine ax_mv 2 126 [some (.ref 222), some (ax_i x1)] [.ref 222, .ref 222] rfl ?_
    refine ax_gR (v := .ref 245) (pc' := 129) ⟨_, rfl⟩ fl_12_77 ay_222 rfl rfl ?_
    refine ax_mv 1 130 [some (.ref 222), some (ax_i x1)] [ax_i x1, .ref 245, .ref 222] rfl ?_
    obtain ⟨o4, h⟩ := h
    refine ax_ild (n := 701) (pc' := 131) ⟨_, rfl⟩ ay_245 (by decide) o4 rfl ?_
    refine ax_mv 1 132 [some (.ref 222), some (ax_i x1)] [ax_i 0, ax_i (V 245 x1), .ref 222] rfl ?_
    refine ax_callN (pc' := 135) ⟨_, rfl⟩ ml_12_484 (rest := []) rfl (fun ss hs => ⟨_, _, ay_222 ss hs⟩) (Nat.le_of_ble_eq_true rfl) rfl rfl h (fun V3 hg3 h => ?_)
    refine ax_mv 2 137 [some (.ref 222), some (ax_i x1)] [.ref 222, .ref 222] rfl ?_
    refine ax_gR (v := .ref 246) (pc' := 140) ⟨_, rfl⟩ fl_12_80 ay_222 rfl rfl ?_
    refine ax_mv 1 141 [some (.ref 222), some (ax_i x1)] [ax_i x1, .ref 246, .ref 222] rfl ?_
    obtain ⟨o5, h⟩ := h
    refine ax_ild (n := 701) (pc' := 142) ⟨_, rfl⟩ ay_246 (by decide) o5 rfl ?_
    refine ax_mv 1 143 [some (.ref 222), some (ax_i x1)] [ax_i 0, ax_i (V3 246 x1), .ref 222] rfl ?_
    refine ax_callN (pc' := 146) ⟨_, rfl⟩ ml_12_484 (rest := []) rfl (fun ss hs => ⟨_, _, ay_222 ss hs⟩) (Nat.le_of_ble_eq_true rfl) rfl rfl h (fun V4 hg4 h => ?_)
    refine ax_mv 1 241 [some (.ref 222), some (ax_i x1)] [] rfl ?_
    exact ax_nret ⟨_, rfl⟩ rfl hg4 h
  have t3 : (V 241 x1 = 12 ∨ V 241 x1 = 13 ∨ V 241 x1 = 19 ∨ V 241 x1 = 21) → ax_R ay_lay ax_t d m_Model_checkTypes 149 [some (.ref 222), some (ax_i x1)] [] V (ax_Nr Φ) Θ := fun hk => by
    have h := h.2.2.2.1 hk
    refine ax_mv 2 151 [some (.ref 222), some (ax_i x1)] [.ref 222, .ref 222] rfl ?_
    refine ax_gR (v := .ref 246) (pc' := 154) ⟨_, rfl⟩ fl_12_80 ay_222 rfl rfl ?_
    refine ax_mv 1 155 [some (.ref 222), some (ax_i x1)] [ax_i x1, .ref 246, .ref 222] rfl ?_
    obtain ⟨o6, h⟩ := h
    refine ax_ild (n := 701) (pc' := 156) ⟨_, rfl⟩ ay_246 (by decide) o6 rfl ?_
    refine ax_mv 1 157 [some (.ref 222), some (ax_i x1)] [.ref 222, ax_i (V 246 x1), .ref 222] rfl ?_
    refine ax_gR (v := .ref 253) (pc' := 160) ⟨_, rfl⟩ fl_12_101 ay_222 rfl rfl ?_
    refine ax_mv 1 161 [some (.ref 222), some (ax_i x1)] [.ref 222, .ref 253, ax_i (V 246 x1), .ref 222] rfl ?_
    refine ax_gR (v := .ref 245) (pc' := 164) ⟨_, rfl⟩ fl_12_77 ay_222 rfl rfl ?_
    refine ax_mv 1 165 [some (.ref 222), some (ax_i x1)] [ax_i x1, .ref 245, .ref 253, ax_i (V 246 x1), .ref 222] rfl ?_
    obtain ⟨o7, h⟩ := h
    refine ax_ild (n := 701) (pc' := 166) ⟨_, rfl⟩ ay_245 (by decide) o7 rfl ?_
    obtain ⟨o8, h⟩ := h
    refine ax_ild (n := 701) (pc' := 167) ⟨_, rfl⟩ ay_253 (by decide) o8 rfl ?_
    refine ax_callN (pc' := 170) ⟨_, rfl⟩ ml_12_484 (rest := []) rfl (fun ss hs => ⟨_, _, ay_222 ss hs⟩) (Nat.le_of_ble_eq_true rfl) rfl rfl h (fun V5 hg5 h => ?_)
    refine ax_mv 1 241 [some (.ref 222), some (ax_i x1)] [] rfl ?_
    exact ax_nret ⟨_, rfl⟩ rfl hg5 h
  have t4 : (V 241 x1 = 16 ∨ V 241 x1 = 17) → ax_R ay_lay ax_t d m_Model_checkTypes 173 [some (.ref 222), some (ax_i x1)] [] V (ax_Nr Φ) Θ := fun hk => by
    have h := h.2.2.2.2.1 hk
    refine ax_mv 2 175 [some (.ref 222), some (ax_i x1)] [.ref 222, .ref 222] rfl ?_
    refine ax_gR (v := .ref 245) (pc' := 178) ⟨_, rfl⟩ fl_12_77 ay_222 rfl rfl ?_
    refine ax_mv 1 179 [some (.ref 222), some (ax_i x1)] [ax_i x1, .ref 245, .ref 222] rfl ?_
    obtain ⟨o9, h⟩ := h
    refine ax_ild (n := 701) (pc' := 180) ⟨_, rfl⟩ ay_245 (by decide) o9 rfl ?_
    refine ax_mv 1 181 [some (.ref 222), some (ax_i x1)] [ax_i 1, ax_i (V 245 x1), .ref 222] rfl ?_
    refine ax_callN (pc' := 184) ⟨_, rfl⟩ ml_12_484 (rest := []) rfl (fun ss hs => ⟨_, _, ay_222 ss hs⟩) (Nat.le_of_ble_eq_true rfl) rfl rfl h (fun V6 hg6 h => ?_)
    refine ax_mv 2 186 [some (.ref 222), some (ax_i x1)] [.ref 222, .ref 222] rfl ?_
    refine ax_gR (v := .ref 246) (pc' := 189) ⟨_, rfl⟩ fl_12_80 ay_222 rfl rfl ?_
    refine ax_mv 1 190 [some (.ref 222), some (ax_i x1)] [ax_i x1, .ref 246, .ref 222] rfl ?_
    obtain ⟨o10, h⟩ := h
    refine ax_ild (n := 701) (pc' := 191) ⟨_, rfl⟩ ay_246 (by decide) o10 rfl ?_
    refine ax_mv 1 192 [some (.ref 222), some (ax_i x1)] [ax_i 1, ax_i (V6 246 x1), .ref 222] rfl ?_
    refine ax_callN (pc' := 195) ⟨_, rfl⟩ ml_12_484 (rest := []) rfl (fun ss hs => ⟨_, _, ay_222 ss hs⟩) (Nat.le_of_ble_eq_true rfl) rfl rfl h (fun V7 hg7 h => ?_)
    refine ax_mv 1 241 [some (.ref 222), some (ax_i x1)] [] rfl ?_
    exact ax_nret ⟨_, rfl⟩ rfl hg7 h
  have t5 : (V 241 x1 = 18) → ax_R ay_lay ax_t d m_Model_checkTypes 198 [some (.ref 222), some (ax_i x1)] [] V (ax_Nr Φ) Θ := fun hk => by
    have h := h.2.2.2.2.2.1 hk
    refine ax_mv 2 200 [some (.ref 222), some (ax_i x1)] [.ref 222, .ref 222] rfl ?_
    refine ax_gR (v := .ref 245) (pc' := 203) ⟨_, rfl⟩ fl_12_77 ay_222 rfl rfl ?_
    refine ax_mv 1 204 [some (.ref 222), some (ax_i x1)] [ax_i x1, .ref 245, .ref 222] rfl ?_
    obtain ⟨o11, h⟩ := h
    refine ax_ild (n := 701) (pc' := 205) ⟨_, rfl⟩ ay_245 (by decide) o11 rfl ?_
    refine ax_mv 1 206 [some (.ref 222), some (ax_i x1)] [ax_i 1, ax_i (V 245 x1), .ref 222] rfl ?_
    refine ax_callN (pc' := 209) ⟨_, rfl⟩ ml_12_484 (rest := []) rfl (fun ss hs => ⟨_, _, ay_222 ss hs⟩) (Nat.le_of_ble_eq_true rfl) rfl rfl h (fun V8 hg8 h => ?_)
    refine ax_mv 2 211 [some (.ref 222), some (ax_i x1)] [.ref 222, .ref 222] rfl ?_
    refine ax_gR (v := .ref 247) (pc' := 214) ⟨_, rfl⟩ fl_12_83 ay_222 rfl rfl ?_
    refine ax_mv 1 215 [some (.ref 222), some (ax_i x1)] [ax_i x1, .ref 247, .ref 222] rfl ?_
    obtain ⟨o12, h⟩ := h
    refine ax_ild (n := 701) (pc' := 216) ⟨_, rfl⟩ ay_247 (by decide) o12 rfl ?_
    refine ax_mv 1 217 [some (.ref 222), some (ax_i x1)] [.ref 222, ax_i (V8 247 x1), .ref 222] rfl ?_
    refine ax_gR (v := .ref 253) (pc' := 220) ⟨_, rfl⟩ fl_12_101 ay_222 rfl rfl ?_
    refine ax_mv 1 221 [some (.ref 222), some (ax_i x1)] [.ref 222, .ref 253, ax_i (V8 247 x1), .ref 222] rfl ?_
    refine ax_gR (v := .ref 246) (pc' := 224) ⟨_, rfl⟩ fl_12_80 ay_222 rfl rfl ?_
    refine ax_mv 1 225 [some (.ref 222), some (ax_i x1)] [ax_i x1, .ref 246, .ref 253, ax_i (V8 247 x1), .ref 222] rfl ?_
    obtain ⟨o13, h⟩ := h
    refine ax_ild (n := 701) (pc' := 226) ⟨_, rfl⟩ ay_246 (by decide) o13 rfl ?_
    obtain ⟨o14, h⟩ := h
    refine ax_ild (n := 701) (pc' := 227) ⟨_, rfl⟩ ay_253 (by decide) o14 rfl ?_
    refine ax_callN (pc' := 230) ⟨_, rfl⟩ ml_12_484 (rest := []) rfl (fun ss hs => ⟨_, _, ay_222 ss hs⟩) (Nat.le_of_ble_eq_true rfl) rfl rfl h (fun V9 hg9 h => ?_)
    refine ax_mv 1 241 [some (.ref 222), some (ax_i x1)] [] rfl ?_
    exact ax_nret ⟨_, rfl⟩ rfl hg9 h
  have t6 : (V 241 x1 = 22) → ax_R ay_lay ax_t d m_Model_checkTypes 233 [some (.ref 222), some (ax_i x1)] [] V (ax_Nr Φ) Θ := fun hk => by
    have h := h.2.2.2.2.2.2.1 hk
    refine ax_mv 2 235 [some (.ref 222), some (ax_i x1)] [ax_i x1, .ref 222] rfl ?_
    refine ax_callN (pc' := 238) ⟨_, rfl⟩ ml_12_487 (rest := []) rfl (fun ss hs => ⟨_, _, ay_222 ss hs⟩) (Nat.le_of_ble_eq_true rfl) rfl rfl h (fun V10 hg10 h => ?_)
    refine ax_mv 1 241 [some (.ref 222), some (ax_i x1)] [] rfl ?_
    exact ax_nret ⟨_, rfl⟩ rfl hg10 h
  have tD : ¬ V 241 x1 = 4 → ¬ V 241 x1 = 5 → ¬ V 241 x1 = 7 → ¬ V 241 x1 = 8 → ¬ V 241 x1 = 9 → ¬ V 241 x1 = 10 → ¬ V 241 x1 = 11 → ¬ V 241 x1 = 14 → ¬ V 241 x1 = 15 → ¬ V 241 x1 = 12 → ¬ V 241 x1 = 13 → ¬ V 241 x1 = 19 → ¬ V 241 x1 = 21 → ¬ V 241 x1 = 16 → ¬ V 241 x1 = 17 → ¬ V 241 x1 = 18 → ¬ V 241 x1 = 22 → ax_R ay_lay ax_t d m_Model_checkTypes 241 [some (.ref 222), some (ax_i x1)] [] V (ax_Nr Φ) Θ := fun n0 n1 n2 n3 n4 n5 n6 n7 n8 n9 n10 n11 n12 n13 n14 n15 n16 => by
    have h := h.2.2.2.2.2.2.2 n0 n1 n2 n3 n4 n5 n6 n7 n8 n9 n10 n11 n12 n13 n14 n15 n16
    exact ax_nret ⟨_, rfl⟩ rfl hg h
  by_cases e4 : V 241 x1 = 4
  · exact ax_tsC (off := 90) (p1 := 96) ⟨_, rfl⟩ (hg _ _) (by omega) (by omega) (by rw [e4]; rfl) (by decide) (t0 (e4))
  by_cases e5 : V 241 x1 = 5
  · exact ax_tsC (off := 104) (p1 := 110) ⟨_, rfl⟩ (hg _ _) (by omega) (by omega) (by rw [e5]; rfl) (by decide) (t1 (e5))
  by_cases e6 : V 241 x1 = 6
  · exact ax_tsC (off := 235) (p1 := 241) ⟨_, rfl⟩ (hg _ _) (by omega) (by omega) (by rw [e6]; rfl) (by decide) (tD (by omega) (by omega) (by omega) (by omega) (by omega) (by omega) (by omega) (by omega) (by omega) (by omega) (by omega) (by omega) (by omega) (by omega) (by omega) (by omega) (by omega))
  by_cases e7 : V 241 x1 = 7
  · exact ax_tsC (off := 118) (p1 := 124) ⟨_, rfl⟩ (hg _ _) (by omega) (by omega) (by rw [e7]; rfl) (by decide) (t2 (Or.inl e7))
  by_cases e8 : V 241 x1 = 8
  · exact ax_tsC (off := 118) (p1 := 124) ⟨_, rfl⟩ (hg _ _) (by omega) (by omega) (by rw [e8]; rfl) (by decide) (t2 (Or.inr (Or.inl e8)))
  by_cases e9 : V 241 x1 = 9
  · exact ax_tsC (off := 118) (p1 := 124) ⟨_, rfl⟩ (hg _ _) (by omega) (by omega) (by rw [e9]; rfl) (by decide) (t2 (Or.inr (Or.inr (Or.inl e9))))
  by_cases e10 : V 241 x1 = 10
  · exact ax_tsC (off := 118) (p1 := 124) ⟨_, rfl⟩ (hg _ _) (by omega) (by omega) (by rw [e10]; rfl) (by decide) (t2 (Or.inr (Or.inr (Or.inr (Or.inl e10)))))
  by_cases e11 : V 241 x1 = 11
  · exact ax_tsC (off := 118) (p1 := 124) ⟨_, rfl⟩ (hg _ _) (by omega) (by omega) (by rw [e11]; rfl) (by decide) (t2 (Or.inr (Or.inr (Or.inr (Or.inr (Or.inl e11))))))
  by_cases e12 : V 241 x1 = 12
  · exact ax_tsC (off := 143) (p1 := 149) ⟨_, rfl⟩ (hg _ _) (by omega) (by omega) (by rw [e12]; rfl) (by decide) (t3 (Or.inl e12))
  by_cases e13 : V 241 x1 = 13
  · exact ax_tsC (off := 143) (p1 := 149) ⟨_, rfl⟩ (hg _ _) (by omega) (by omega) (by rw [e13]; rfl) (by decide) (t3 (Or.inr (Or.inl e13)))
  by_cases e14 : V 241 x1 = 14
  · exact ax_tsC (off := 118) (p1 := 124) ⟨_, rfl⟩ (hg _ _) (by omega) (by omega) (by rw [e14]; rfl) (by decide) (t2 (Or.inr (Or.inr (Or.inr (Or.inr (Or.inr (Or.inl e14)))))))
  by_cases e15 : V 241 x1 = 15
  · exact ax_tsC (off := 118) (p1 := 124) ⟨_, rfl⟩ (hg _ _) (by omega) (by omega) (by rw [e15]; rfl) (by decide) (t2 (Or.inr (Or.inr (Or.inr (Or.inr (Or.inr (Or.inr (e15))))))))
  by_cases e16 : V 241 x1 = 16
  · exact ax_tsC (off := 167) (p1 := 173) ⟨_, rfl⟩ (hg _ _) (by omega) (by omega) (by rw [e16]; rfl) (by decide) (t4 (Or.inl e16))
  by_cases e17 : V 241 x1 = 17
  · exact ax_tsC (off := 167) (p1 := 173) ⟨_, rfl⟩ (hg _ _) (by omega) (by omega) (by rw [e17]; rfl) (by decide) (t4 (Or.inr (e17)))
  by_cases e18 : V 241 x1 = 18
  · exact ax_tsC (off := 192) (p1 := 198) ⟨_, rfl⟩ (hg _ _) (by omega) (by omega) (by rw [e18]; rfl) (by decide) (t5 (e18))
  by_cases e19 : V 241 x1 = 19
  · exact ax_tsC (off := 143) (p1 := 149) ⟨_, rfl⟩ (hg _ _) (by omega) (by omega) (by rw [e19]; rfl) (by decide) (t3 (Or.inr (Or.inr (Or.inl e19))))
  by_cases e20 : V 241 x1 = 20
  · exact ax_tsC (off := 235) (p1 := 241) ⟨_, rfl⟩ (hg _ _) (by omega) (by omega) (by rw [e20]; rfl) (by decide) (tD (by omega) (by omega) (by omega) (by omega) (by omega) (by omega) (by omega) (by omega) (by omega) (by omega) (by omega) (by omega) (by omega) (by omega) (by omega) (by omega) (by omega))
  by_cases e21 : V 241 x1 = 21
  · exact ax_tsC (off := 143) (p1 := 149) ⟨_, rfl⟩ (hg _ _) (by omega) (by omega) (by rw [e21]; rfl) (by decide) (t3 (Or.inr (Or.inr (Or.inr (e21)))))
  by_cases e22 : V 241 x1 = 22
  · exact ax_tsC (off := 227) (p1 := 233) ⟨_, rfl⟩ (hg _ _) (by omega) (by omega) (by rw [e22]; rfl) (by decide) (t6 (e22))
  exact ax_tsD (p1 := 241) ⟨_, rfl⟩ (hg _ _) (by omega) (by decide) (tD e4 e5 e7 e8 e9 e10 e11 e14 e15 e12 e13 e19 e21 e16 e17 e18 e22)
theorem r_Model_must {d : Nat} {V : ax_V} {Φ : ax_V → Prop} {Θ : ax_V → Prop} {x1 : Int} {x2 : Int} (hg : ax_g V) (hx1 : ax_rg x1) (hx2 : ax_rg x2) (h : (0 ≤ x1 ∧ x1 < 701) ∧ ((V 253 x1 = x2 → Φ V) ∧ (¬ V 253 x1 = x2 → (0 ≤ x1 ∧ x1 < 701) ∧ ax_N ay_lay d q_Model_note [.ref 222, ax_i (V 242 x1)] V (fun V1 => Φ V1) Θ))) : ax_N ay_lay (d + 1) q_Model_must [.ref 222, ax_i x1, ax_i x2] V Φ Θ := by
  refine ax_T.of (M := m_Model_must) rfl (Nat.le_of_ble_eq_true rfl) ?_
  refine ax_mv 0 0 [some (.ref 222), some (ax_i x1), some (ax_i x2)] [] rfl ?_
  refine ax_mv 1 1 [some (.ref 222), some (ax_i x1), some (ax_i x2)] [.ref 222] rfl ?_
  refine ax_gR (v := .ref 253) (pc' := 4) ⟨_, rfl⟩ fl_12_101 ay_222 rfl rfl ?_
  refine ax_mv 1 5 [some (.ref 222), some (ax_i x1), some (ax_i x2)] [ax_i x1, .ref 253] rfl ?_
  obtain ⟨o1, h⟩ := h
  refine ax_ild (n := 701) (pc' := 6) ⟨_, rfl⟩ ay_253 (by decide) o1 rfl ?_
  refine ax_mv 1 7 [some (.ref 222), some (ax_i x1), some (ax_i x2)] [ax_i x2, ax_i (V 253 x1)] rfl ?_
  refine ax_if2 (p1 := 20) (p2 := 10) ⟨_, rfl⟩ (by decide) rfl (hg _ _) hx2 (fun hc => ?_) (fun hc => ?_)
  · have h := h.1 hc
    exact ax_nret ⟨_, rfl⟩ rfl hg h
  · have h := h.2 hc
    refine ax_mv 2 12 [some (.ref 222), some (ax_i x1), some (ax_i x2)] [.ref 222, .ref 222] rfl ?_
    refine ax_gR (v := .ref 242) (pc' := 15) ⟨_, rfl⟩ fl_12_68 ay_222 rfl rfl ?_
    refine ax_mv 1 16 [some (.ref 222), some (ax_i x1), some (ax_i x2)] [ax_i x1, .ref 242, .ref 222] rfl ?_
    obtain ⟨o2, h⟩ := h
    refine ax_ild (n := 701) (pc' := 17) ⟨_, rfl⟩ ay_242 (by decide) o2 rfl ?_
    refine ax_callN (pc' := 20) ⟨_, rfl⟩ ml_12_433 (rest := []) rfl (fun ss hs => ⟨_, _, ay_222 ss hs⟩) (Nat.le_of_ble_eq_true rfl) rfl rfl h (fun V1 hg1 h => ?_)
    exact ax_nret ⟨_, rfl⟩ rfl hg1 h
abbrev k_Model_checkCall_17 (d : Nat) (x1 : Int) (x2 : Int) (x3 : Int) (x4 : Int) (y5 : Option Value) (V : ax_V) (Φ : ax_V → Prop) (Θ : ax_V → Prop) : Prop := ax_R ay_lay ax_t d m_Model_checkCall 17 [some (.ref 222), some (ax_i x1), some (ax_i x2), some (ax_i x3), some (ax_i x4), y5] [] V (ax_Nr Φ) Θ
abbrev k_Model_checkCall_69 (d : Nat) (x1 : Int) (x2 : Int) (x3 : Int) (x4 : Int) (x5 : Int) (V : ax_V) (Φ : ax_V → Prop) (Θ : ax_V → Prop) : Prop := ax_R ay_lay ax_t d m_Model_checkCall 69 [some (.ref 222), some (ax_i x1), some (ax_i x2), some (ax_i x3), some (ax_i x4), some (ax_i x5)] [] V (ax_Nr Φ) Θ
abbrev k_Model_checkCall_142 (d : Nat) (x1 : Int) (x2 : Int) (y3 : Option Value) (y4 : Option Value) (x5 : Int) (V : ax_V) (Φ : ax_V → Prop) (Θ : ax_V → Prop) : Prop := ax_R ay_lay ax_t d m_Model_checkCall 142 [some (.ref 222), some (ax_i x1), some (ax_i x2), y3, y4, some (ax_i x5)] [] V (ax_Nr Φ) Θ
set_option maxRecDepth 20000 in
theorem r_Model_checkCall_17 {d : Nat} {V : ax_V} {Φ : ax_V → Prop} {Θ : ax_V → Prop} {x1 : Int} {x2 : Int} {x3 : Int} {x4 : Int} {y5 : Option Value} (hg : ax_g V) (hx1 : ax_rg x1) (hx2 : ax_rg x2) (hx3 : ax_rg x3) (hx4 : ax_rg x4) (hy5 : ax_y y5) (h : ((x4 = -1 → (0 ≤ x2 ∧ x2 < 9) ∧ ((x3 = V 227 x2 → (0 ≤ x1 ∧ x1 < 701) ∧ k_Model_checkCall_69 d x1 x2 x3 0 (V 245 x1) V Φ Θ) ∧ (¬ x3 = V 227 x2 → (0 ≤ x1 ∧ x1 < 701) ∧ ax_N ay_lay d q_Model_note [.ref 222, ax_i (V 242 x1)] V (fun V1 => (0 ≤ x1 ∧ x1 < 701) ∧ k_Model_checkCall_69 d x1 x2 x3 0 (V1 245 x1) V1 Φ Θ) Θ))) ∧ (¬ x4 = -1 → (0 ≤ x4 ∧ x4 < 701) ∧ k_Model_checkCall_17 d x1 x2 (x3 + 1) (V 252 x4) y5 V Φ Θ))) : k_Model_checkCall_17 d x1 x2 x3 x4 y5 V Φ Θ := by
  refine ax_mv 2 20 [some (.ref 222), some (ax_i x1), some (ax_i x2), some (ax_i x3), some (ax_i x4), y5] [ax_i (-1), ax_i x4] rfl ?_
  refine ax_if2 (p1 := 38) (p2 := 23) ⟨_, rfl⟩ (by decide) rfl hx4 (by decide) (fun hc => ?_) (fun hc => ?_)
  · have h := h.1 hc
    refine ax_mv 2 40 [some (.ref 222), some (ax_i x1), some (ax_i x2), some (ax_i x3), some (ax_i x4), y5] [.ref 222, ax_i x3] rfl ?_
    refine ax_gR (v := .ref 227) (pc' := 43) ⟨_, rfl⟩ fl_12_22 ay_222 rfl rfl ?_
    refine ax_mv 1 44 [some (.ref 222), some (ax_i x1), some (ax_i x2), some (ax_i x3), some (ax_i x4), y5] [ax_i x2, .ref 227, ax_i x3] rfl ?_
    obtain ⟨o1, h⟩ := h
    refine ax_ild (n := 9) (pc' := 45) ⟨_, rfl⟩ ay_227 (by decide) o1 rfl ?_
    refine ax_if2 (p1 := 58) (p2 := 48) ⟨_, rfl⟩ (by decide) rfl hx3 (hg _ _) (fun hc => ?_) (fun hc => ?_)
    · have h := h.1 hc
      refine ax_mv 1 59 [some (.ref 222), some (ax_i x1), some (ax_i x2), some (ax_i x3), some (ax_i x4), y5] [ax_i 0] rfl ?_
      refine ax_sti (i := 0) (k := 4) (n := 2) (pc' := 61) (L' := [some (.ref 222), some (ax_i x1), some (ax_i x2), some (ax_i x3), some (ax_i 0), y5]) ⟨_, rfl⟩ rfl rfl rfl (Nat.le_of_ble_eq_true rfl) rfl rfl ?_
      refine ax_mv 1 62 [some (.ref 222), some (ax_i x1), some (ax_i x2), some (ax_i x3), some (ax_i 0), y5] [.ref 222] rfl ?_
      refine ax_gR (v := .ref 245) (pc' := 65) ⟨_, rfl⟩ fl_12_77 ay_222 rfl rfl ?_
      refine ax_mv 1 66 [some (.ref 222), some (ax_i x1), some (ax_i x2), some (ax_i x3), some (ax_i 0), y5] [ax_i x1, .ref 245] rfl ?_
      obtain ⟨o2, h⟩ := h
      refine ax_ild (n := 701) (pc' := 67) ⟨_, rfl⟩ ay_245 (by decide) o2 rfl ?_
      refine ax_sti (i := 0) (k := 5) (n := 2) (pc' := 69) (L' := [some (.ref 222), some (ax_i x1), some (ax_i x2), some (ax_i x3), some (ax_i 0), some (ax_i (V 245 x1))]) ⟨_, rfl⟩ rfl rfl rfl (Nat.le_of_ble_eq_true rfl) rfl rfl ?_
      exact h
    · have h := h.2 hc
      refine ax_mv 2 50 [some (.ref 222), some (ax_i x1), some (ax_i x2), some (ax_i x3), some (ax_i x4), y5] [.ref 222, .ref 222] rfl ?_
      refine ax_gR (v := .ref 242) (pc' := 53) ⟨_, rfl⟩ fl_12_68 ay_222 rfl rfl ?_
      refine ax_mv 1 54 [some (.ref 222), some (ax_i x1), some (ax_i x2), some (ax_i x3), some (ax_i x4), y5] [ax_i x1, .ref 242, .ref 222] rfl ?_
      obtain ⟨o3, h⟩ := h
      refine ax_ild (n := 701) (pc' := 55) ⟨_, rfl⟩ ay_242 (by decide) o3 rfl ?_
      refine ax_callN (pc' := 58) ⟨_, rfl⟩ ml_12_433 (rest := []) rfl (fun ss hs => ⟨_, _, ay_222 ss hs⟩) (Nat.le_of_ble_eq_true rfl) rfl rfl h (fun V1 hg1 h => ?_)
      refine ax_mv 1 59 [some (.ref 222), some (ax_i x1), some (ax_i x2), some (ax_i x3), some (ax_i x4), y5] [ax_i 0] rfl ?_
      refine ax_sti (i := 0) (k := 4) (n := 2) (pc' := 61) (L' := [some (.ref 222), some (ax_i x1), some (ax_i x2), some (ax_i x3), some (ax_i 0), y5]) ⟨_, rfl⟩ rfl rfl rfl (Nat.le_of_ble_eq_true rfl) rfl rfl ?_
      refine ax_mv 1 62 [some (.ref 222), some (ax_i x1), some (ax_i x2), some (ax_i x3), some (ax_i 0), y5] [.ref 222] rfl ?_
      refine ax_gR (v := .ref 245) (pc' := 65) ⟨_, rfl⟩ fl_12_77 ay_222 rfl rfl ?_
      refine ax_mv 1 66 [some (.ref 222), some (ax_i x1), some (ax_i x2), some (ax_i x3), some (ax_i 0), y5] [ax_i x1, .ref 245] rfl ?_
      obtain ⟨o4, h⟩ := h
      refine ax_ild (n := 701) (pc' := 67) ⟨_, rfl⟩ ay_245 (by decide) o4 rfl ?_
      refine ax_sti (i := 0) (k := 5) (n := 2) (pc' := 69) (L' := [some (.ref 222), some (ax_i x1), some (ax_i x2), some (ax_i x3), some (ax_i 0), some (ax_i (V1 245 x1))]) ⟨_, rfl⟩ rfl rfl rfl (Nat.le_of_ble_eq_true rfl) rfl rfl ?_
      exact h
  · have h := h.2 hc
    refine ax_inc (x := x3) (pc' := 26) (L' := [some (.ref 222), some (ax_i x1), some (ax_i x2), some (ax_i (x3 + 1)), some (ax_i x4), y5]) ⟨_, rfl⟩ rfl rfl rfl rfl ?_
    refine ax_mv 1 27 [some (.ref 222), some (ax_i x1), some (ax_i x2), some (ax_i (x3 + 1)), some (ax_i x4), y5] [.ref 222] rfl ?_
    refine ax_gR (v := .ref 252) (pc' := 30) ⟨_, rfl⟩ fl_12_98 ay_222 rfl rfl ?_
    refine ax_mv 1 32 [some (.ref 222), some (ax_i x1), some (ax_i x2), some (ax_i (x3 + 1)), some (ax_i x4), y5] [ax_i x4, .ref 252] rfl ?_
    obtain ⟨o5, h⟩ := h
    refine ax_ild (n := 701) (pc' := 33) ⟨_, rfl⟩ ay_252 (by decide) o5 rfl ?_
    refine ax_sti (i := 0) (k := 4) (n := 2) (pc' := 35) (L' := [some (.ref 222), some (ax_i x1), some (ax_i x2), some (ax_i (x3 + 1)), some (ax_i (V 252 x4)), y5]) ⟨_, rfl⟩ rfl rfl rfl (Nat.le_of_ble_eq_true rfl) rfl rfl ?_
    refine ax_mv 1 17 [some (.ref 222), some (ax_i x1), some (ax_i x2), some (ax_i (x3 + 1)), some (ax_i (V 252 x4)), y5] [] rfl ?_
    exact h
set_option maxRecDepth 20000 in
theorem r_Model_checkCall_69 {d : Nat} {V : ax_V} {Φ : ax_V → Prop} {Θ : ax_V → Prop} {x1 : Int} {x2 : Int} {x3 : Int} {x4 : Int} {x5 : Int} (hg : ax_g V) (hx1 : ax_rg x1) (hx2 : ax_rg x2) (hx3 : ax_rg x3) (hx4 : ax_rg x4) (hx5 : ax_rg x5) (h : ((x5 = -1 → (0 ≤ x2 ∧ x2 < 9) ∧ ((V 228 x2 = 1 → Φ V) ∧ (¬ V 228 x2 = 1 → k_Model_checkCall_142 d x1 x2 (some (ax_i x3)) (some (ax_i x4)) 0 V Φ Θ))) ∧ (¬ x5 = -1 → (0 ≤ x2 ∧ x2 < 9) ∧ ((x3 = V 227 x2 → (0 ≤ (26 * x2) + x4 ∧ (26 * x2) + x4 < 240) ∧ (0 ≤ (26 * x2) + (V 230 ((26 * x2) + x4)) ∧ (26 * x2) + (V 230 ((26 * x2) + x4)) < 240) ∧ ax_N ay_lay d q_Model_must [.ref 222, ax_i x5, ax_i (V 233 ((26 * x2) + (V 230 ((26 * x2) + x4))))] V (fun V1 => (0 ≤ x5 ∧ x5 < 701) ∧ k_Model_checkCall_69 d x1 x2 x3 (x4 + 1) (V1 252 x5) V1 Φ Θ) Θ) ∧ (¬ x3 = V 227 x2 → (0 ≤ x2 ∧ x2 < 9) ∧ ((V 228 x2 = 1 → Φ V) ∧ (¬ V 228 x2 = 1 → k_Model_checkCall_142 d x1 x2 (some (ax_i x3)) (some (ax_i x4)) 0 V Φ Θ))))))) : k_Model_checkCall_69 d x1 x2 x3 x4 x5 V Φ Θ := by
  refine ax_mv 2 72 [some (.ref 222), some (ax_i x1), some (ax_i x2), some (ax_i x3), some (ax_i x4), some (ax_i x5)] [ax_i (-1), ax_i x5] rfl ?_
  refine ax_if2 (p1 := 128) (p2 := 75) ⟨_, rfl⟩ (by decide) rfl hx5 (by decide) (fun hc => ?_) (fun hc => ?_)
  · have h := h.1 hc
    refine ax_mv 1 129 [some (.ref 222), some (ax_i x1), some (ax_i x2), some (ax_i x3), some (ax_i x4), some (ax_i x5)] [.ref 222] rfl ?_
    refine ax_gR (v := .ref 228) (pc' := 132) ⟨_, rfl⟩ fl_12_25 ay_222 rfl rfl ?_
    refine ax_mv 1 133 [some (.ref 222), some (ax_i x1), some (ax_i x2), some (ax_i x3), some (ax_i x4), some (ax_i x5)] [ax_i x2, .ref 228] rfl ?_
    obtain ⟨o6, h⟩ := h
    refine ax_ild (n := 9) (pc' := 134) ⟨_, rfl⟩ ay_228 (by decide) o6 rfl ?_
    refine ax_mv 1 135 [some (.ref 222), some (ax_i x1), some (ax_i x2), some (ax_i x3), some (ax_i x4), some (ax_i x5)] [ax_i 1, ax_i (V 228 x2)] rfl ?_
    refine ax_if2 (p1 := 139) (p2 := 138) ⟨_, rfl⟩ (by decide) rfl (hg _ _) (by decide) (fun hc => ?_) (fun hc => ?_)
    · have h := h.2 hc
      refine ax_mv 1 140 [some (.ref 222), some (ax_i x1), some (ax_i x2), some (ax_i x3), some (ax_i x4), some (ax_i x5)] [ax_i 0] rfl ?_
      refine ax_sti (i := 0) (k := 5) (n := 2) (pc' := 142) (L' := [some (.ref 222), some (ax_i x1), some (ax_i x2), some (ax_i x3), some (ax_i x4), some (ax_i 0)]) ⟨_, rfl⟩ rfl rfl rfl (Nat.le_of_ble_eq_true rfl) rfl rfl ?_
      exact h
    · have h := h.1 (Classical.not_not.mp hc)
      exact ax_nret ⟨_, rfl⟩ rfl hg h
  · have h := h.2 hc
    refine ax_mv 2 77 [some (.ref 222), some (ax_i x1), some (ax_i x2), some (ax_i x3), some (ax_i x4), some (ax_i x5)] [.ref 222, ax_i x3] rfl ?_
    refine ax_gR (v := .ref 227) (pc' := 80) ⟨_, rfl⟩ fl_12_22 ay_222 rfl rfl ?_
    refine ax_mv 1 81 [some (.ref 222), some (ax_i x1), some (ax_i x2), some (ax_i x3), some (ax_i x4), some (ax_i x5)] [ax_i x2, .ref 227, ax_i x3] rfl ?_
    obtain ⟨o7, h⟩ := h
    refine ax_ild (n := 9) (pc' := 82) ⟨_, rfl⟩ ay_227 (by decide) o7 rfl ?_
    refine ax_if2 (p1 := 128) (p2 := 85) ⟨_, rfl⟩ (by decide) rfl hx3 (hg _ _) (fun hc => ?_) (fun hc => ?_)
    · have h := h.2 hc
      refine ax_mv 1 129 [some (.ref 222), some (ax_i x1), some (ax_i x2), some (ax_i x3), some (ax_i x4), some (ax_i x5)] [.ref 222] rfl ?_
      refine ax_gR (v := .ref 228) (pc' := 132) ⟨_, rfl⟩ fl_12_25 ay_222 rfl rfl ?_
      refine ax_mv 1 133 [some (.ref 222), some (ax_i x1), some (ax_i x2), some (ax_i x3), some (ax_i x4), some (ax_i x5)] [ax_i x2, .ref 228] rfl ?_
      obtain ⟨o8, h⟩ := h
      refine ax_ild (n := 9) (pc' := 134) ⟨_, rfl⟩ ay_228 (by decide) o8 rfl ?_
      refine ax_mv 1 135 [some (.ref 222), some (ax_i x1), some (ax_i x2), some (ax_i x3), some (ax_i x4), some (ax_i x5)] [ax_i 1, ax_i (V 228 x2)] rfl ?_
      refine ax_if2 (p1 := 139) (p2 := 138) ⟨_, rfl⟩ (by decide) rfl (hg _ _) (by decide) (fun hc => ?_) (fun hc => ?_)
      · have h := h.2 hc
        refine ax_mv 1 140 [some (.ref 222), some (ax_i x1), some (ax_i x2), some (ax_i x3), some (ax_i x4), some (ax_i x5)] [ax_i 0] rfl ?_
        refine ax_sti (i := 0) (k := 5) (n := 2) (pc' := 142) (L' := [some (.ref 222), some (ax_i x1), some (ax_i x2), some (ax_i x3), some (ax_i x4), some (ax_i 0)]) ⟨_, rfl⟩ rfl rfl rfl (Nat.le_of_ble_eq_true rfl) rfl rfl ?_
        exact h
      · have h := h.1 (Classical.not_not.mp hc)
        exact ax_nret ⟨_, rfl⟩ rfl hg h
    · have h := h.1 (Classical.not_not.mp hc)
      refine ax_mv 3 89 [some (.ref 222), some (ax_i x1), some (ax_i x2), some (ax_i x3), some (ax_i x4), some (ax_i x5)] [.ref 222, ax_i x5, .ref 222] rfl ?_
      refine ax_gR (v := .ref 233) (pc' := 92) ⟨_, rfl⟩ fl_12_40 ay_222 rfl rfl ?_
      refine ax_bip (pc' := 94) ⟨_, rfl⟩ (by decide) rfl ?_
      refine ax_mv 1 95 [some (.ref 222), some (ax_i x1), some (ax_i x2), some (ax_i x3), some (ax_i x4), some (ax_i x5)] [ax_i x2, ax_i 26, .ref 233, ax_i x5, .ref 222] rfl ?_
      refine ax_mul (pc' := 96) ⟨_, rfl⟩ rfl ?_
      refine ax_mv 1 97 [some (.ref 222), some (ax_i x1), some (ax_i x2), some (ax_i x3), some (ax_i x4), some (ax_i x5)] [.ref 222, ax_i (26 * x2), .ref 233, ax_i x5, .ref 222] rfl ?_
      refine ax_gR (v := .ref 230) (pc' := 100) ⟨_, rfl⟩ fl_12_31 ay_222 rfl rfl ?_
      refine ax_bip (pc' := 102) ⟨_, rfl⟩ (by decide) rfl ?_
      refine ax_mv 1 103 [some (.ref 222), some (ax_i x1), some (ax_i x2), some (ax_i x3), some (ax_i x4), some (ax_i x5)] [ax_i x2, ax_i 26, .ref 230, ax_i (26 * x2), .ref 233, ax_i x5, .ref 222] rfl ?_
      refine ax_mul (pc' := 104) ⟨_, rfl⟩ rfl ?_
      refine ax_mv 1 106 [some (.ref 222), some (ax_i x1), some (ax_i x2), some (ax_i x3), some (ax_i x4), some (ax_i x5)] [ax_i x4, ax_i (26 * x2), .ref 230, ax_i (26 * x2), .ref 233, ax_i x5, .ref 222] rfl ?_
      refine ax_add (pc' := 107) ⟨_, rfl⟩ rfl ?_
      obtain ⟨o9, h⟩ := h
      refine ax_ild (n := 240) (pc' := 108) ⟨_, rfl⟩ ay_230 (by decide) o9 rfl ?_
      refine ax_add (pc' := 109) ⟨_, rfl⟩ rfl ?_
      obtain ⟨o10, h⟩ := h
      refine ax_ild (n := 240) (pc' := 110) ⟨_, rfl⟩ ay_233 (by decide) o10 rfl ?_
      refine ax_callN (pc' := 113) ⟨_, rfl⟩ ml_12_484 (rest := []) rfl (fun ss hs => ⟨_, _, ay_222 ss hs⟩) (Nat.le_of_ble_eq_true rfl) rfl rfl h (fun V1 hg1 h => ?_)
      refine ax_inc (x := x4) (pc' := 116) (L' := [some (.ref 222), some (ax_i x1), some (ax_i x2), some (ax_i x3), some (ax_i (x4 + 1)), some (ax_i x5)]) ⟨_, rfl⟩ rfl rfl rfl rfl ?_
      refine ax_mv 1 117 [some (.ref 222), some (ax_i x1), some (ax_i x2), some (ax_i x3), some (ax_i (x4 + 1)), some (ax_i x5)] [.ref 222] rfl ?_
      refine ax_gR (v := .ref 252) (pc' := 120) ⟨_, rfl⟩ fl_12_98 ay_222 rfl rfl ?_
      refine ax_mv 1 122 [some (.ref 222), some (ax_i x1), some (ax_i x2), some (ax_i x3), some (ax_i (x4 + 1)), some (ax_i x5)] [ax_i x5, .ref 252] rfl ?_
      obtain ⟨o11, h⟩ := h
      refine ax_ild (n := 701) (pc' := 123) ⟨_, rfl⟩ ay_252 (by decide) o11 rfl ?_
      refine ax_sti (i := 0) (k := 5) (n := 2) (pc' := 125) (L' := [some (.ref 222), some (ax_i x1), some (ax_i x2), some (ax_i x3), some (ax_i (x4 + 1)), some (ax_i (V1 252 x5))]) ⟨_, rfl⟩ rfl rfl rfl (Nat.le_of_ble_eq_true rfl) rfl rfl ?_
      refine ax_mv 1 69 [some (.ref 222), some (ax_i x1), some (ax_i x2), some (ax_i x3), some (ax_i (x4 + 1)), some (ax_i (V1 252 x5))] [] rfl ?_
      exact h
set_option maxRecDepth 20000 in
theorem r_Model_checkCall_142 {d : Nat} {V : ax_V} {Φ : ax_V → Prop} {Θ : ax_V → Prop} {x1 : Int} {x2 : Int} {y3 : Option Value} {y4 : Option Value} {x5 : Int} (hg : ax_g V) (hx1 : ax_rg x1) (hx2 : ax_rg x2) (hy3 : ax_y y3) (hy4 : ax_y y4) (hx5 : ax_rg x5) (h : ((V 222 44 ≤ x5 → (0 ≤ x1 ∧ x1 < 701) ∧ ax_N ay_lay d q_Model_note [.ref 222, ax_i (V 242 x1)] V (fun V1 => Φ V1) Θ) ∧ (x5 < V 222 44 → (0 ≤ x5 ∧ x5 < 351) ∧ ((V 262 x5 = x1 → (0 ≤ x5 ∧ x5 < 351) ∧ (0 ≤ x2 ∧ x2 < 9) ∧ ((V 260 x5 = V 228 x2 → Φ V) ∧ (¬ V 260 x5 = V 228 x2 → k_Model_checkCall_142 d x1 x2 y3 y4 (x5 + 1) V Φ Θ))) ∧ (¬ V 262 x5 = x1 → k_Model_checkCall_142 d x1 x2 y3 y4 (x5 + 1) V Φ Θ))))) : k_Model_checkCall_142 d x1 x2 y3 y4 x5 V Φ Θ := by
  refine ax_mv 2 145 [some (.ref 222), some (ax_i x1), some (ax_i x2), y3, y4, some (ax_i x5)] [.ref 222, ax_i x5] rfl ?_
  refine ax_gI (kI := 44) (pc' := 148) ⟨_, rfl⟩ fl_12_414 ay_222 rfl rfl rfl ?_
  refine ax_if2 (p1 := 185) (p2 := 151) ⟨_, rfl⟩ (by decide) rfl hx5 (hg _ _) (fun hc => ?_) (fun hc => ?_)
  · have h := h.1 hc
    refine ax_mv 2 187 [some (.ref 222), some (ax_i x1), some (ax_i x2), y3, y4, some (ax_i x5)] [.ref 222, .ref 222] rfl ?_
    refine ax_gR (v := .ref 242) (pc' := 190) ⟨_, rfl⟩ fl_12_68 ay_222 rfl rfl ?_
    refine ax_mv 1 191 [some (.ref 222), some (ax_i x1), some (ax_i x2), y3, y4, some (ax_i x5)] [ax_i x1, .ref 242, .ref 222] rfl ?_
    obtain ⟨o12, h⟩ := h
    refine ax_ild (n := 701) (pc' := 192) ⟨_, rfl⟩ ay_242 (by decide) o12 rfl ?_
    refine ax_callN (pc' := 195) ⟨_, rfl⟩ ml_12_433 (rest := []) rfl (fun ss hs => ⟨_, _, ay_222 ss hs⟩) (Nat.le_of_ble_eq_true rfl) rfl rfl h (fun V1 hg1 h => ?_)
    exact ax_nret ⟨_, rfl⟩ rfl hg1 h
  · have h := h.2 (Int.not_le.mp hc)
    refine ax_mv 1 152 [some (.ref 222), some (ax_i x1), some (ax_i x2), y3, y4, some (ax_i x5)] [.ref 222] rfl ?_
    refine ax_gR (v := .ref 262) (pc' := 155) ⟨_, rfl⟩ fl_12_128 ay_222 rfl rfl ?_
    refine ax_mv 1 157 [some (.ref 222), some (ax_i x1), some (ax_i x2), y3, y4, some (ax_i x5)] [ax_i x5, .ref 262] rfl ?_
    obtain ⟨o13, h⟩ := h
    refine ax_ild (n := 351) (pc' := 158) ⟨_, rfl⟩ ay_262 (by decide) o13 rfl ?_
    refine ax_mv 1 159 [some (.ref 222), some (ax_i x1), some (ax_i x2), y3, y4, some (ax_i x5)] [ax_i x1, ax_i (V 262 x5)] rfl ?_
    refine ax_if2 (p1 := 179) (p2 := 162) ⟨_, rfl⟩ (by decide) rfl (hg _ _) hx1 (fun hc => ?_) (fun hc => ?_)
    · have h := h.2 hc
      refine ax_inc (x := x5) (pc' := 182) (L' := [some (.ref 222), some (ax_i x1), some (ax_i x2), y3, y4, some (ax_i (x5 + 1))]) ⟨_, rfl⟩ rfl (ax_kill_y (k := 4) rfl hy4) rfl rfl ?_
      refine ax_mv 1 142 [some (.ref 222), some (ax_i x1), some (ax_i x2), y3, y4, some (ax_i (x5 + 1))] [] rfl ?_
      exact h
    · have h := h.1 (Classical.not_not.mp hc)
      refine ax_mv 1 163 [some (.ref 222), some (ax_i x1), some (ax_i x2), y3, y4, some (ax_i x5)] [.ref 222] rfl ?_
      refine ax_gR (v := .ref 260) (pc' := 166) ⟨_, rfl⟩ fl_12_122 ay_222 rfl rfl ?_
      refine ax_mv 1 168 [some (.ref 222), some (ax_i x1), some (ax_i x2), y3, y4, some (ax_i x5)] [ax_i x5, .ref 260] rfl ?_
      obtain ⟨o14, h⟩ := h
      refine ax_ild (n := 351) (pc' := 169) ⟨_, rfl⟩ ay_260 (by decide) o14 rfl ?_
      refine ax_mv 1 170 [some (.ref 222), some (ax_i x1), some (ax_i x2), y3, y4, some (ax_i x5)] [.ref 222, ax_i (V 260 x5)] rfl ?_
      refine ax_gR (v := .ref 228) (pc' := 173) ⟨_, rfl⟩ fl_12_25 ay_222 rfl rfl ?_
      refine ax_mv 1 174 [some (.ref 222), some (ax_i x1), some (ax_i x2), y3, y4, some (ax_i x5)] [ax_i x2, .ref 228, ax_i (V 260 x5)] rfl ?_
      obtain ⟨o15, h⟩ := h
      refine ax_ild (n := 9) (pc' := 175) ⟨_, rfl⟩ ay_228 (by decide) o15 rfl ?_
      refine ax_if2 (p1 := 179) (p2 := 178) ⟨_, rfl⟩ (by decide) rfl (hg _ _) (hg _ _) (fun hc => ?_) (fun hc => ?_)
      · have h := h.2 hc
        refine ax_inc (x := x5) (pc' := 182) (L' := [some (.ref 222), some (ax_i x1), some (ax_i x2), y3, y4, some (ax_i (x5 + 1))]) ⟨_, rfl⟩ rfl (ax_kill_y (k := 4) rfl hy4) rfl rfl ?_
        refine ax_mv 1 142 [some (.ref 222), some (ax_i x1), some (ax_i x2), y3, y4, some (ax_i (x5 + 1))] [] rfl ?_
        exact h
      · have h := h.1 (Classical.not_not.mp hc)
        exact ax_nret ⟨_, rfl⟩ rfl hg h
set_option maxRecDepth 20000 in
theorem r_Model_checkCall {d : Nat} {V : ax_V} {Φ : ax_V → Prop} {Θ : ax_V → Prop} {x1 : Int} (hg : ax_g V) (hx1 : ax_rg x1) (h : (0 ≤ x1 ∧ x1 < 701) ∧ (0 ≤ x1 ∧ x1 < 701) ∧ k_Model_checkCall_17 d x1 (V 251 x1) 0 (V 245 x1) none V Φ Θ) : ax_N ay_lay (d + 1) q_Model_checkCall [.ref 222, ax_i x1] V Φ Θ := by
  refine ax_T.of (M := m_Model_checkCall) rfl (Nat.le_of_ble_eq_true rfl) ?_
  refine ax_mv 0 0 [some (.ref 222), some (ax_i x1), none, none, none, none] [] rfl ?_
  refine ax_mv 1 1 [some (.ref 222), some (ax_i x1), none, none, none, none] [.ref 222] rfl ?_
  refine ax_gR (v := .ref 251) (pc' := 4) ⟨_, rfl⟩ fl_12_95 ay_222 rfl rfl ?_
  refine ax_mv 1 5 [some (.ref 222), some (ax_i x1), none, none, none, none] [ax_i x1, .ref 251] rfl ?_
  obtain ⟨o16, h⟩ := h
  refine ax_ild (n := 701) (pc' := 6) ⟨_, rfl⟩ ay_251 (by decide) o16 rfl ?_
  refine ax_sti (i := 0) (k := 2) (n := 1) (pc' := 7) (L' := [some (.ref 222), some (ax_i x1), some (ax_i (V 251 x1)), none, none, none]) ⟨_, rfl⟩ rfl rfl rfl (Nat.le_of_ble_eq_true rfl) rfl rfl ?_
  refine ax_mv 1 8 [some (.ref 222), some (ax_i x1), some (ax_i (V 251 x1)), none, none, none] [ax_i 0] rfl ?_
  refine ax_sti (i := 0) (k := 3) (n := 1) (pc' := 9) (L' := [some (.ref 222), some (ax_i x1), some (ax_i (V 251 x1)), some (ax_i 0), none, none]) ⟨_, rfl⟩ rfl rfl rfl (Nat.le_of_ble_eq_true rfl) rfl rfl ?_
  refine ax_mv 1 10 [some (.ref 222), some (ax_i x1), some (ax_i (V 251 x1)), some (ax_i 0), none, none] [.ref 222] rfl ?_
  refine ax_gR (v := .ref 245) (pc' := 13) ⟨_, rfl⟩ fl_12_77 ay_222 rfl rfl ?_
  refine ax_mv 1 14 [some (.ref 222), some (ax_i x1), some (ax_i (V 251 x1)), some (ax_i 0), none, none] [ax_i x1, .ref 245] rfl ?_
  obtain ⟨o17, h⟩ := h
  refine ax_ild (n := 701) (pc' := 15) ⟨_, rfl⟩ ay_245 (by decide) o17 rfl ?_
  refine ax_sti (i := 0) (k := 4) (n := 2) (pc' := 17) (L' := [some (.ref 222), some (ax_i x1), some (ax_i (V 251 x1)), some (ax_i 0), some (ax_i (V 245 x1)), none]) ⟨_, rfl⟩ rfl rfl rfl (Nat.le_of_ble_eq_true rfl) rfl rfl ?_
  exact h
abbrev k_Model_checkEquation_92 (d : Nat) (x1 : Int) (x2 : Int) (x3 : Int) (x4 : Int) (x5 : Int) (V : ax_V) (Φ : ax_V → Prop) (Θ : ax_V → Prop) : Prop := ax_R ay_lay ax_t d m_Model_checkEquation 92 [some (.ref 222), some (ax_i x1), some (ax_i x2), some (ax_i x3), some (ax_i x4), some (ax_i x5)] [] V (ax_Nr Φ) Θ
set_option maxRecDepth 20000 in
theorem r_Model_checkEquation_92 {d : Nat} {V : ax_V} {Φ : ax_V → Prop} {Θ : ax_V → Prop} {x1 : Int} {x2 : Int} {x3 : Int} {x4 : Int} {x5 : Int} (hg : ax_g V) (hx1 : ax_rg x1) (hx2 : ax_rg x2) (hx3 : ax_rg x3) (hx4 : ax_rg x4) (hx5 : ax_rg x5) (h : (0 ≤ x1 ∧ x1 < 351) ∧ ((V 260 x1 ≤ x5 → ((x4 = 0 → (0 ≤ x2 ∧ x2 < 701) ∧ ax_N ay_lay d q_Model_note [.ref 222, ax_i (V 242 x2)] V (fun V1 => Φ V1) Θ) ∧ (¬ x4 = 0 → Φ V))) ∧ (x5 < V 260 x1 → ((x4 = 0 → ((x4 = 0 → (0 ≤ x2 ∧ x2 < 701) ∧ ax_N ay_lay d q_Model_note [.ref 222, ax_i (V 242 x2)] V (fun V2 => Φ V2) Θ) ∧ (¬ x4 = 0 → Φ V))) ∧ (¬ x4 = 0 → (0 ≤ x1 ∧ x1 < 351) ∧ (0 ≤ (V 259 x1) + x5 ∧ (V 259 x1) + x5 < 701) ∧ (0 ≤ (26 * x3) + (V 265 ((V 259 x1) + x5)) ∧ (26 * x3) + (V 265 ((V 259 x1) + x5)) < 240) ∧ (0 ≤ x2 ∧ x2 < 701) ∧ (0 ≤ x2 ∧ x2 < 701) ∧ (0 ≤ (26 * (V 251 x2)) + x5 ∧ (26 * (V 251 x2)) + x5 < 240) ∧ (0 ≤ (26 * (V 251 x2)) + (V 231 ((26 * (V 251 x2)) + x5)) ∧ (26 * (V 251 x2)) + (V 231 ((26 * (V 251 x2)) + x5)) < 240) ∧ ((V 233 ((26 * x3) + (V 265 ((V 259 x1) + x5))) = V 233 ((26 * (V 251 x2)) + (V 231 ((26 * (V 251 x2)) + x5))) → k_Model_checkEquation_92 d x1 x2 x3 1 (x5 + 1) V Φ Θ) ∧ (¬ V 233 ((26 * x3) + (V 265 ((V 259 x1) + x5))) = V 233 ((26 * (V 251 x2)) + (V 231 ((26 * (V 251 x2)) + x5))) → k_Model_checkEquation_92 d x1 x2 x3 0 (x5 + 1) V Φ Θ))))))) : k_Model_checkEquation_92 d x1 x2 x3 x4 x5 V Φ Θ := by
  refine ax_mv 2 95 [some (.ref 222), some (ax_i x1), some (ax_i x2), some (ax_i x3), some (ax_i x4), some (ax_i x5)] [.ref 222, ax_i x5] rfl ?_
  refine ax_gR (v := .ref 260) (pc' := 98) ⟨_, rfl⟩ fl_12_122 ay_222 rfl rfl ?_
  refine ax_mv 1 99 [some (.ref 222), some (ax_i x1), some (ax_i x2), some (ax_i x3), some (ax_i x4), some (ax_i x5)] [ax_i x1, .ref 260, ax_i x5] rfl ?_
  obtain ⟨o1, h⟩ := h
  refine ax_ild (n := 351) (pc' := 100) ⟨_, rfl⟩ ay_260 (by decide) o1 rfl ?_
  refine ax_if2 (p1 := 180) (p2 := 103) ⟨_, rfl⟩ (by decide) rfl hx5 (hg _ _) (fun hc => ?_) (fun hc => ?_)
  · have h := h.1 hc
    refine ax_mv 1 182 [some (.ref 222), some (ax_i x1), some (ax_i x2), some (ax_i x3), some (ax_i x4), some (ax_i x5)] [ax_i x4] rfl ?_
    refine ax_if (p1 := 195) (p2 := 185) ⟨_, rfl⟩ (by decide) rfl hx4 (fun hc => ?_) (fun hc => ?_)
    · have h := h.2 hc
      exact ax_nret ⟨_, rfl⟩ rfl hg h
    · have h := h.1 (Classical.not_not.mp hc)
      refine ax_mv 2 187 [some (.ref 222), some (ax_i x1), some (ax_i x2), some (ax_i x3), some (ax_i x4), some (ax_i x5)] [.ref 222, .ref 222] rfl ?_
      refine ax_gR (v := .ref 242) (pc' := 190) ⟨_, rfl⟩ fl_12_68 ay_222 rfl rfl ?_
      refine ax_mv 1 191 [some (.ref 222), some (ax_i x1), some (ax_i x2), some (ax_i x3), some (ax_i x4), some (ax_i x5)] [ax_i x2, .ref 242, .ref 222] rfl ?_
      obtain ⟨o2, h⟩ := h
      refine ax_ild (n := 701) (pc' := 192) ⟨_, rfl⟩ ay_242 (by decide) o2 rfl ?_
      refine ax_callN (pc' := 195) ⟨_, rfl⟩ ml_12_433 (rest := []) rfl (fun ss hs => ⟨_, _, ay_222 ss hs⟩) (Nat.le_of_ble_eq_true rfl) rfl rfl h (fun V1 hg1 h => ?_)
      exact ax_nret ⟨_, rfl⟩ rfl hg1 h
  · have h := h.2 (Int.not_le.mp hc)
    refine ax_mv 1 105 [some (.ref 222), some (ax_i x1), some (ax_i x2), some (ax_i x3), some (ax_i x4), some (ax_i x5)] [ax_i x4] rfl ?_
    refine ax_if (p1 := 180) (p2 := 108) ⟨_, rfl⟩ (by decide) rfl hx4 (fun hc => ?_) (fun hc => ?_)
    · have h := h.1 hc
      refine ax_mv 1 182 [some (.ref 222), some (ax_i x1), some (ax_i x2), some (ax_i x3), some (ax_i x4), some (ax_i x5)] [ax_i x4] rfl ?_
      refine ax_if (p1 := 195) (p2 := 185) ⟨_, rfl⟩ (by decide) rfl hx4 (fun hc => ?_) (fun hc => ?_)
      · have h := h.2 hc
        exact ax_nret ⟨_, rfl⟩ rfl hg h
      · have h := h.1 (Classical.not_not.mp hc)
        refine ax_mv 2 187 [some (.ref 222), some (ax_i x1), some (ax_i x2), some (ax_i x3), some (ax_i x4), some (ax_i x5)] [.ref 222, .ref 222] rfl ?_
        refine ax_gR (v := .ref 242) (pc' := 190) ⟨_, rfl⟩ fl_12_68 ay_222 rfl rfl ?_
        refine ax_mv 1 191 [some (.ref 222), some (ax_i x1), some (ax_i x2), some (ax_i x3), some (ax_i x4), some (ax_i x5)] [ax_i x2, .ref 242, .ref 222] rfl ?_
        obtain ⟨o3, h⟩ := h
        refine ax_ild (n := 701) (pc' := 192) ⟨_, rfl⟩ ay_242 (by decide) o3 rfl ?_
        refine ax_callN (pc' := 195) ⟨_, rfl⟩ ml_12_433 (rest := []) rfl (fun ss hs => ⟨_, _, ay_222 ss hs⟩) (Nat.le_of_ble_eq_true rfl) rfl rfl h (fun V2 hg2 h => ?_)
        exact ax_nret ⟨_, rfl⟩ rfl hg2 h
    · have h := h.2 hc
      refine ax_mv 1 109 [some (.ref 222), some (ax_i x1), some (ax_i x2), some (ax_i x3), some (ax_i x4), some (ax_i x5)] [.ref 222] rfl ?_
      refine ax_gR (v := .ref 233) (pc' := 112) ⟨_, rfl⟩ fl_12_40 ay_222 rfl rfl ?_
      refine ax_bip (pc' := 114) ⟨_, rfl⟩ (by decide) rfl ?_
      refine ax_mv 1 115 [some (.ref 222), some (ax_i x1), some (ax_i x2), some (ax_i x3), some (ax_i x4), some (ax_i x5)] [ax_i x3, ax_i 26, .ref 233] rfl ?_
      refine ax_mul (pc' := 116) ⟨_, rfl⟩ rfl ?_
      refine ax_mv 1 117 [some (.ref 222), some (ax_i x1), some (ax_i x2), some (ax_i x3), some (ax_i x4), some (ax_i x5)] [.ref 222, ax_i (26 * x3), .ref 233] rfl ?_
      refine ax_gR (v := .ref 265) (pc' := 120) ⟨_, rfl⟩ fl_12_137 ay_222 rfl rfl ?_
      refine ax_mv 1 121 [some (.ref 222), some (ax_i x1), some (ax_i x2), some (ax_i x3), some (ax_i x4), some (ax_i x5)] [.ref 222, .ref 265, ax_i (26 * x3), .ref 233] rfl ?_
      refine ax_gR (v := .ref 259) (pc' := 124) ⟨_, rfl⟩ fl_12_119 ay_222 rfl rfl ?_
      refine ax_mv 1 125 [some (.ref 222), some (ax_i x1), some (ax_i x2), some (ax_i x3), some (ax_i x4), some (ax_i x5)] [ax_i x1, .ref 259, .ref 265, ax_i (26 * x3), .ref 233] rfl ?_
      obtain ⟨o4, h⟩ := h
      refine ax_ild (n := 351) (pc' := 126) ⟨_, rfl⟩ ay_259 (by decide) o4 rfl ?_
      refine ax_mv 1 128 [some (.ref 222), some (ax_i x1), some (ax_i x2), some (ax_i x3), some (ax_i x4), some (ax_i x5)] [ax_i x5, ax_i (V 259 x1), .ref 265, ax_i (26 * x3), .ref 233] rfl ?_
      refine ax_add (pc' := 129) ⟨_, rfl⟩ rfl ?_
      obtain ⟨o5, h⟩ := h
      refine ax_ild (n := 701) (pc' := 130) ⟨_, rfl⟩ ay_265 (by decide) o5 rfl ?_
      refine ax_add (pc' := 131) ⟨_, rfl⟩ rfl ?_
      obtain ⟨o6, h⟩ := h
      refine ax_ild (n := 240) (pc' := 132) ⟨_, rfl⟩ ay_233 (by decide) o6 rfl ?_
      refine ax_mv 1 133 [some (.ref 222), some (ax_i x1), some (ax_i x2), some (ax_i x3), some (ax_i x4), some (ax_i x5)] [.ref 222, ax_i (V 233 ((26 * x3) + (V 265 ((V 259 x1) + x5))))] rfl ?_
      refine ax_gR (v := .ref 233) (pc' := 136) ⟨_, rfl⟩ fl_12_40 ay_222 rfl rfl ?_
      refine ax_bip (pc' := 138) ⟨_, rfl⟩ (by decide) rfl ?_
      refine ax_mv 1 139 [some (.ref 222), some (ax_i x1), some (ax_i x2), some (ax_i x3), some (ax_i x4), some (ax_i x5)] [.ref 222, ax_i 26, .ref 233, ax_i (V 233 ((26 * x3) + (V 265 ((V 259 x1) + x5))))] rfl ?_
      refine ax_gR (v := .ref 251) (pc' := 142) ⟨_, rfl⟩ fl_12_95 ay_222 rfl rfl ?_
      refine ax_mv 1 143 [some (.ref 222), some (ax_i x1), some (ax_i x2), some (ax_i x3), some (ax_i x4), some (ax_i x5)] [ax_i x2, .ref 251, ax_i 26, .ref 233, ax_i (V 233 ((26 * x3) + (V 265 ((V 259 x1) + x5))))] rfl ?_
      obtain ⟨o7, h⟩ := h
      refine ax_ild (n := 701) (pc' := 144) ⟨_, rfl⟩ ay_251 (by decide) o7 rfl ?_
      refine ax_mul (pc' := 145) ⟨_, rfl⟩ rfl ?_
      refine ax_mv 1 146 [some (.ref 222), some (ax_i x1), some (ax_i x2), some (ax_i x3), some (ax_i x4), some (ax_i x5)] [.ref 222, ax_i (26 * (V 251 x2)), .ref 233, ax_i (V 233 ((26 * x3) + (V 265 ((V 259 x1) + x5))))] rfl ?_
      refine ax_gR (v := .ref 231) (pc' := 149) ⟨_, rfl⟩ fl_12_34 ay_222 rfl rfl ?_
      refine ax_bip (pc' := 151) ⟨_, rfl⟩ (by decide) rfl ?_
      refine ax_mv 1 152 [some (.ref 222), some (ax_i x1), some (ax_i x2), some (ax_i x3), some (ax_i x4), some (ax_i x5)] [.ref 222, ax_i 26, .ref 231, ax_i (26 * (V 251 x2)), .ref 233, ax_i (V 233 ((26 * x3) + (V 265 ((V 259 x1) + x5))))] rfl ?_
      refine ax_gR (v := .ref 251) (pc' := 155) ⟨_, rfl⟩ fl_12_95 ay_222 rfl rfl ?_
      refine ax_mv 1 156 [some (.ref 222), some (ax_i x1), some (ax_i x2), some (ax_i x3), some (ax_i x4), some (ax_i x5)] [ax_i x2, .ref 251, ax_i 26, .ref 231, ax_i (26 * (V 251 x2)), .ref 233, ax_i (V 233 ((26 * x3) + (V 265 ((V 259 x1) + x5))))] rfl ?_
      obtain ⟨o8, h⟩ := h
      refine ax_ild (n := 701) (pc' := 157) ⟨_, rfl⟩ ay_251 (by decide) o8 rfl ?_
      refine ax_mul (pc' := 158) ⟨_, rfl⟩ rfl ?_
      refine ax_mv 1 160 [some (.ref 222), some (ax_i x1), some (ax_i x2), some (ax_i x3), some (ax_i x4), some (ax_i x5)] [ax_i x5, ax_i (26 * (V 251 x2)), .ref 231, ax_i (26 * (V 251 x2)), .ref 233, ax_i (V 233 ((26 * x3) + (V 265 ((V 259 x1) + x5))))] rfl ?_
      refine ax_add (pc' := 161) ⟨_, rfl⟩ rfl ?_
      obtain ⟨o9, h⟩ := h
      refine ax_ild (n := 240) (pc' := 162) ⟨_, rfl⟩ ay_231 (by decide) o9 rfl ?_
      refine ax_add (pc' := 163) ⟨_, rfl⟩ rfl ?_
      obtain ⟨o10, h⟩ := h
      refine ax_ild (n := 240) (pc' := 164) ⟨_, rfl⟩ ay_233 (by decide) o10 rfl ?_
      refine ax_if2 (p1 := 171) (p2 := 167) ⟨_, rfl⟩ (by decide) rfl (hg _ _) (hg _ _) (fun hc => ?_) (fun hc => ?_)
      · have h := h.2 hc
        refine ax_mv 1 172 [some (.ref 222), some (ax_i x1), some (ax_i x2), some (ax_i x3), some (ax_i x4), some (ax_i x5)] [ax_i 0] rfl ?_
        refine ax_sti (i := 0) (k := 4) (n := 2) (pc' := 174) (L' := [some (.ref 222), some (ax_i x1), some (ax_i x2), some (ax_i x3), some (ax_i 0), some (ax_i x5)]) ⟨_, rfl⟩ rfl rfl rfl (Nat.le_of_ble_eq_true rfl) rfl rfl ?_
        refine ax_inc (x := x5) (pc' := 177) (L' := [some (.ref 222), some (ax_i x1), some (ax_i x2), some (ax_i x3), some (ax_i 0), some (ax_i (x5 + 1))]) ⟨_, rfl⟩ rfl rfl rfl rfl ?_
        refine ax_mv 1 92 [some (.ref 222), some (ax_i x1), some (ax_i x2), some (ax_i x3), some (ax_i 0), some (ax_i (x5 + 1))] [] rfl ?_
        exact h
      · have h := h.1 (Classical.not_not.mp hc)
        refine ax_mv 2 172 [some (.ref 222), some (ax_i x1), some (ax_i x2), some (ax_i x3), some (ax_i x4), some (ax_i x5)] [ax_i 1] rfl ?_
        refine ax_sti (i := 0) (k := 4) (n := 2) (pc' := 174) (L' := [some (.ref 222), some (ax_i x1), some (ax_i x2), some (ax_i x3), some (ax_i 1), some (ax_i x5)]) ⟨_, rfl⟩ rfl rfl rfl (Nat.le_of_ble_eq_true rfl) rfl rfl ?_
        refine ax_inc (x := x5) (pc' := 177) (L' := [some (.ref 222), some (ax_i x1), some (ax_i x2), some (ax_i x3), some (ax_i 1), some (ax_i (x5 + 1))]) ⟨_, rfl⟩ rfl rfl rfl rfl ?_
        refine ax_mv 1 92 [some (.ref 222), some (ax_i x1), some (ax_i x2), some (ax_i x3), some (ax_i 1), some (ax_i (x5 + 1))] [] rfl ?_
        exact h
set_option maxRecDepth 20000 in
theorem r_Model_checkEquation {d : Nat} {V : ax_V} {Φ : ax_V → Prop} {Θ : ax_V → Prop} {x1 : Int} (hg : ax_g V) (hx1 : ax_rg x1) (h : (0 ≤ x1 ∧ x1 < 351) ∧ (0 ≤ x1 ∧ x1 < 351) ∧ (0 ≤ x1 ∧ x1 < 351) ∧ ((V 260 x1 = 1 → (0 ≤ x1 ∧ x1 < 351) ∧ (0 ≤ V 259 x1 ∧ V 259 x1 < 701) ∧ (0 ≤ (26 * (V 258 x1)) + (V 265 (V 259 x1)) ∧ (26 * (V 258 x1)) + (V 265 (V 259 x1)) < 240) ∧ ax_N ay_lay d q_Model_must [.ref 222, ax_i (V 262 x1), ax_i (V 233 ((26 * (V 258 x1)) + (V 265 (V 259 x1))))] V (fun V1 => Φ V1) Θ) ∧ (¬ V 260 x1 = 1 → (0 ≤ V 262 x1 ∧ V 262 x1 < 701) ∧ ((V 241 (V 262 x1) = 22 → (0 ≤ V 262 x1 ∧ V 262 x1 < 701) ∧ (0 ≤ V 251 (V 262 x1) ∧ V 251 (V 262 x1) < 9) ∧ (0 ≤ x1 ∧ x1 < 351) ∧ ((V 228 (V 251 (V 262 x1)) = V 260 x1 → k_Model_checkEquation_92 d x1 (V 262 x1) (V 258 x1) 1 0 V Φ Θ) ∧ (¬ V 228 (V 251 (V 262 x1)) = V 260 x1 → k_Model_checkEquation_92 d x1 (V 262 x1) (V 258 x1) 0 0 V Φ Θ))) ∧ (¬ V 241 (V 262 x1) = 22 → k_Model_checkEquation_92 d x1 (V 262 x1) (V 258 x1) 0 0 V Φ Θ))))) : ax_N ay_lay (d + 1) q_Model_checkEquation [.ref 222, ax_i x1] V Φ Θ := by
  refine ax_T.of (M := m_Model_checkEquation) rfl (Nat.le_of_ble_eq_true rfl) ?_
  refine ax_mv 0 0 [some (.ref 222), some (ax_i x1), none, none, none, none] [] rfl ?_
  refine ax_mv 1 1 [some (.ref 222), some (ax_i x1), none, none, none, none] [.ref 222] rfl ?_
  refine ax_gR (v := .ref 262) (pc' := 4) ⟨_, rfl⟩ fl_12_128 ay_222 rfl rfl ?_
  refine ax_mv 1 5 [some (.ref 222), some (ax_i x1), none, none, none, none] [ax_i x1, .ref 262] rfl ?_
  obtain ⟨o11, h⟩ := h
  refine ax_ild (n := 351) (pc' := 6) ⟨_, rfl⟩ ay_262 (by decide) o11 rfl ?_
  refine ax_sti (i := 0) (k := 2) (n := 1) (pc' := 7) (L' := [some (.ref 222), some (ax_i x1), some (ax_i (V 262 x1)), none, none, none]) ⟨_, rfl⟩ rfl rfl rfl (Nat.le_of_ble_eq_true rfl) rfl rfl ?_
  refine ax_mv 1 8 [some (.ref 222), some (ax_i x1), some (ax_i (V 262 x1)), none, none, none] [.ref 222] rfl ?_
  refine ax_gR (v := .ref 258) (pc' := 11) ⟨_, rfl⟩ fl_12_116 ay_222 rfl rfl ?_
  refine ax_mv 1 12 [some (.ref 222), some (ax_i x1), some (ax_i (V 262 x1)), none, none, none] [ax_i x1, .ref 258] rfl ?_
  obtain ⟨o12, h⟩ := h
  refine ax_ild (n := 351) (pc' := 13) ⟨_, rfl⟩ ay_258 (by decide) o12 rfl ?_
  refine ax_sti (i := 0) (k := 3) (n := 1) (pc' := 14) (L' := [some (.ref 222), some (ax_i x1), some (ax_i (V 262 x1)), some (ax_i (V 258 x1)), none, none]) ⟨_, rfl⟩ rfl rfl rfl (Nat.le_of_ble_eq_true rfl) rfl rfl ?_
  refine ax_mv 1 15 [some (.ref 222), some (ax_i x1), some (ax_i (V 262 x1)), some (ax_i (V 258 x1)), none, none] [.ref 222] rfl ?_
  refine ax_gR (v := .ref 260) (pc' := 18) ⟨_, rfl⟩ fl_12_122 ay_222 rfl rfl ?_
  refine ax_mv 1 19 [some (.ref 222), some (ax_i x1), some (ax_i (V 262 x1)), some (ax_i (V 258 x1)), none, none] [ax_i x1, .ref 260] rfl ?_
  obtain ⟨o13, h⟩ := h
  refine ax_ild (n := 351) (pc' := 20) ⟨_, rfl⟩ ay_260 (by decide) o13 rfl ?_
  refine ax_mv 1 21 [some (.ref 222), some (ax_i x1), some (ax_i (V 262 x1)), some (ax_i (V 258 x1)), none, none] [ax_i 1, ax_i (V 260 x1)] rfl ?_
  refine ax_if2 (p1 := 51) (p2 := 24) ⟨_, rfl⟩ (by decide) rfl (hg _ _) (by decide) (fun hc => ?_) (fun hc => ?_)
  · have h := h.2 hc
    refine ax_mv 1 52 [some (.ref 222), some (ax_i x1), some (ax_i (V 262 x1)), some (ax_i (V 258 x1)), none, none] [.ref 222] rfl ?_
    refine ax_gR (v := .ref 241) (pc' := 55) ⟨_, rfl⟩ fl_12_65 ay_222 rfl rfl ?_
    refine ax_mv 1 56 [some (.ref 222), some (ax_i x1), some (ax_i (V 262 x1)), some (ax_i (V 258 x1)), none, none] [ax_i (V 262 x1), .ref 241] rfl ?_
    obtain ⟨o14, h⟩ := h
    refine ax_ild (n := 701) (pc' := 57) ⟨_, rfl⟩ ay_241 (by decide) o14 rfl ?_
    refine ax_bip (pc' := 59) ⟨_, rfl⟩ (by decide) rfl ?_
    refine ax_if2 (p1 := 86) (p2 := 62) ⟨_, rfl⟩ (by decide) rfl (hg _ _) (by decide) (fun hc => ?_) (fun hc => ?_)
    · have h := h.2 hc
      refine ax_mv 1 87 [some (.ref 222), some (ax_i x1), some (ax_i (V 262 x1)), some (ax_i (V 258 x1)), none, none] [ax_i 0] rfl ?_
      refine ax_sti (i := 0) (k := 4) (n := 2) (pc' := 89) (L' := [some (.ref 222), some (ax_i x1), some (ax_i (V 262 x1)), some (ax_i (V 258 x1)), some (ax_i 0), none]) ⟨_, rfl⟩ rfl rfl rfl (Nat.le_of_ble_eq_true rfl) rfl rfl ?_
      refine ax_mv 1 90 [some (.ref 222), some (ax_i x1), some (ax_i (V 262 x1)), some (ax_i (V 258 x1)), some (ax_i 0), none] [ax_i 0] rfl ?_
      refine ax_sti (i := 0) (k := 5) (n := 2) (pc' := 92) (L' := [some (.ref 222), some (ax_i x1), some (ax_i (V 262 x1)), some (ax_i (V 258 x1)), some (ax_i 0), some (ax_i 0)]) ⟨_, rfl⟩ rfl rfl rfl (Nat.le_of_ble_eq_true rfl) rfl rfl ?_
      exact h
    · have h := h.1 (Classical.not_not.mp hc)
      refine ax_mv 1 63 [some (.ref 222), some (ax_i x1), some (ax_i (V 262 x1)), some (ax_i (V 258 x1)), none, none] [.ref 222] rfl ?_
      refine ax_gR (v := .ref 228) (pc' := 66) ⟨_, rfl⟩ fl_12_25 ay_222 rfl rfl ?_
      refine ax_mv 1 67 [some (.ref 222), some (ax_i x1), some (ax_i (V 262 x1)), some (ax_i (V 258 x1)), none, none] [.ref 222, .ref 228] rfl ?_
      refine ax_gR (v := .ref 251) (pc' := 70) ⟨_, rfl⟩ fl_12_95 ay_222 rfl rfl ?_
      refine ax_mv 1 71 [some (.ref 222), some (ax_i x1), some (ax_i (V 262 x1)), some (ax_i (V 258 x1)), none, none] [ax_i (V 262 x1), .ref 251, .ref 228] rfl ?_
      obtain ⟨o15, h⟩ := h
      refine ax_ild (n := 701) (pc' := 72) ⟨_, rfl⟩ ay_251 (by decide) o15 rfl ?_
      obtain ⟨o16, h⟩ := h
      refine ax_ild (n := 9) (pc' := 73) ⟨_, rfl⟩ ay_228 (by decide) o16 rfl ?_
      refine ax_mv 1 74 [some (.ref 222), some (ax_i x1), some (ax_i (V 262 x1)), some (ax_i (V 258 x1)), none, none] [.ref 222, ax_i (V 228 (V 251 (V 262 x1)))] rfl ?_
      refine ax_gR (v := .ref 260) (pc' := 77) ⟨_, rfl⟩ fl_12_122 ay_222 rfl rfl ?_
      refine ax_mv 1 78 [some (.ref 222), some (ax_i x1), some (ax_i (V 262 x1)), some (ax_i (V 258 x1)), none, none] [ax_i x1, .ref 260, ax_i (V 228 (V 251 (V 262 x1)))] rfl ?_
      obtain ⟨o17, h⟩ := h
      refine ax_ild (n := 351) (pc' := 79) ⟨_, rfl⟩ ay_260 (by decide) o17 rfl ?_
      refine ax_if2 (p1 := 86) (p2 := 82) ⟨_, rfl⟩ (by decide) rfl (hg _ _) (hg _ _) (fun hc => ?_) (fun hc => ?_)
      · have h := h.2 hc
        refine ax_mv 1 87 [some (.ref 222), some (ax_i x1), some (ax_i (V 262 x1)), some (ax_i (V 258 x1)), none, none] [ax_i 0] rfl ?_
        refine ax_sti (i := 0) (k := 4) (n := 2) (pc' := 89) (L' := [some (.ref 222), some (ax_i x1), some (ax_i (V 262 x1)), some (ax_i (V 258 x1)), some (ax_i 0), none]) ⟨_, rfl⟩ rfl rfl rfl (Nat.le_of_ble_eq_true rfl) rfl rfl ?_
        refine ax_mv 1 90 [some (.ref 222), some (ax_i x1), some (ax_i (V 262 x1)), some (ax_i (V 258 x1)), some (ax_i 0), none] [ax_i 0] rfl ?_
        refine ax_sti (i := 0) (k := 5) (n := 2) (pc' := 92) (L' := [some (.ref 222), some (ax_i x1), some (ax_i (V 262 x1)), some (ax_i (V 258 x1)), some (ax_i 0), some (ax_i 0)]) ⟨_, rfl⟩ rfl rfl rfl (Nat.le_of_ble_eq_true rfl) rfl rfl ?_
        exact h
      · have h := h.1 (Classical.not_not.mp hc)
        refine ax_mv 2 87 [some (.ref 222), some (ax_i x1), some (ax_i (V 262 x1)), some (ax_i (V 258 x1)), none, none] [ax_i 1] rfl ?_
        refine ax_sti (i := 0) (k := 4) (n := 2) (pc' := 89) (L' := [some (.ref 222), some (ax_i x1), some (ax_i (V 262 x1)), some (ax_i (V 258 x1)), some (ax_i 1), none]) ⟨_, rfl⟩ rfl rfl rfl (Nat.le_of_ble_eq_true rfl) rfl rfl ?_
        refine ax_mv 1 90 [some (.ref 222), some (ax_i x1), some (ax_i (V 262 x1)), some (ax_i (V 258 x1)), some (ax_i 1), none] [ax_i 0] rfl ?_
        refine ax_sti (i := 0) (k := 5) (n := 2) (pc' := 92) (L' := [some (.ref 222), some (ax_i x1), some (ax_i (V 262 x1)), some (ax_i (V 258 x1)), some (ax_i 1), some (ax_i 0)]) ⟨_, rfl⟩ rfl rfl rfl (Nat.le_of_ble_eq_true rfl) rfl rfl ?_
        exact h
  · have h := h.1 (Classical.not_not.mp hc)
    refine ax_mv 3 27 [some (.ref 222), some (ax_i x1), some (ax_i (V 262 x1)), some (ax_i (V 258 x1)), none, none] [.ref 222, ax_i (V 262 x1), .ref 222] rfl ?_
    refine ax_gR (v := .ref 233) (pc' := 30) ⟨_, rfl⟩ fl_12_40 ay_222 rfl rfl ?_
    refine ax_bip (pc' := 32) ⟨_, rfl⟩ (by decide) rfl ?_
    refine ax_mv 1 33 [some (.ref 222), some (ax_i x1), some (ax_i (V 262 x1)), some (ax_i (V 258 x1)), none, none] [ax_i (V 258 x1), ax_i 26, .ref 233, ax_i (V 262 x1), .ref 222] rfl ?_
    refine ax_mul (pc' := 34) ⟨_, rfl⟩ rfl ?_
    refine ax_mv 1 35 [some (.ref 222), some (ax_i x1), some (ax_i (V 262 x1)), some (ax_i (V 258 x1)), none, none] [.ref 222, ax_i (26 * (V 258 x1)), .ref 233, ax_i (V 262 x1), .ref 222] rfl ?_
    refine ax_gR (v := .ref 265) (pc' := 38) ⟨_, rfl⟩ fl_12_137 ay_222 rfl rfl ?_
    refine ax_mv 1 39 [some (.ref 222), some (ax_i x1), some (ax_i (V 262 x1)), some (ax_i (V 258 x1)), none, none] [.ref 222, .ref 265, ax_i (26 * (V 258 x1)), .ref 233, ax_i (V 262 x1), .ref 222] rfl ?_
    refine ax_gR (v := .ref 259) (pc' := 42) ⟨_, rfl⟩ fl_12_119 ay_222 rfl rfl ?_
    refine ax_mv 1 43 [some (.ref 222), some (ax_i x1), some (ax_i (V 262 x1)), some (ax_i (V 258 x1)), none, none] [ax_i x1, .ref 259, .ref 265, ax_i (26 * (V 258 x1)), .ref 233, ax_i (V 262 x1), .ref 222] rfl ?_
    obtain ⟨o18, h⟩ := h
    refine ax_ild (n := 351) (pc' := 44) ⟨_, rfl⟩ ay_259 (by decide) o18 rfl ?_
    obtain ⟨o19, h⟩ := h
    refine ax_ild (n := 701) (pc' := 45) ⟨_, rfl⟩ ay_265 (by decide) o19 rfl ?_
    refine ax_add (pc' := 46) ⟨_, rfl⟩ rfl ?_
    obtain ⟨o20, h⟩ := h
    refine ax_ild (n := 240) (pc' := 47) ⟨_, rfl⟩ ay_233 (by decide) o20 rfl ?_
    refine ax_callN (pc' := 50) ⟨_, rfl⟩ ml_12_484 (rest := []) rfl (fun ss hs => ⟨_, _, ay_222 ss hs⟩) (Nat.le_of_ble_eq_true rfl) rfl rfl h (fun V1 hg1 h => ?_)
    exact ax_nret ⟨_, rfl⟩ rfl hg1 h
