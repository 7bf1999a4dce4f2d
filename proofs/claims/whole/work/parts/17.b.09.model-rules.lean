/-! RULES of the model's methods: a method each, and each loop of it. PRINTED by wip/gen/rules.py -/
abbrev k_Model_findSlots_2 (d : Nat) (x1 : Int) (y2 : Option Value) (y3 : Option Value) (y4 : Option Value) (V : ax_V) (Φ : ax_V → Prop) (Θ : ax_V → Prop) : Prop := ax_R ay_lay ax_t d m_Model_findSlots 2 [some (.ref 222), some (ax_i x1), y2, y3, y4] [] V (ax_Nr Φ) Θ
abbrev k_Model_findSlots_26 (d : Nat) (x1 : Int) (x2 : Int) (y3 : Option Value) (y4 : Option Value) (V : ax_V) (Φ : ax_V → Prop) (Θ : ax_V → Prop) : Prop := ax_R ay_lay ax_t d m_Model_findSlots 26 [some (.ref 222), some (ax_i x1), some (ax_i x2), y3, y4] [] V (ax_Nr Φ) Θ
abbrev k_Model_findSlots_81 (d : Nat) (x1 : Int) (x2 : Int) (y3 : Option Value) (y4 : Option Value) (V : ax_V) (Φ : ax_V → Prop) (Θ : ax_V → Prop) : Prop := ax_R ay_lay ax_t d m_Model_findSlots 81 [some (.ref 222), some (ax_i x1), some (ax_i x2), y3, y4] [] V (ax_Nr Φ) Θ
abbrev k_Model_findSlots_119 (d : Nat) (x1 : Int) (x2 : Int) (y3 : Option Value) (y4 : Option Value) (V : ax_V) (Φ : ax_V → Prop) (Θ : ax_V → Prop) : Prop := ax_R ay_lay ax_t d m_Model_findSlots 119 [some (.ref 222), some (ax_i x1), some (ax_i x2), y3, y4] [] V (ax_Nr Φ) Θ
abbrev k_Model_findSlots_162 (d : Nat) (x1 : Int) (x2 : Int) (y3 : Option Value) (y4 : Option Value) (V : ax_V) (Φ : ax_V → Prop) (Θ : ax_V → Prop) : Prop := ax_R ay_lay ax_t d m_Model_findSlots 162 [some (.ref 222), some (ax_i x1), some (ax_i x2), y3, y4] [] V (ax_Nr Φ) Θ
abbrev k_Model_findSlots_210 (d : Nat) (x1 : Int) (x2 : Int) (x3 : Int) (x4 : Int) (V : ax_V) (Φ : ax_V → Prop) (Θ : ax_V → Prop) : Prop := ax_R ay_lay ax_t d m_Model_findSlots 210 [some (.ref 222), some (ax_i x1), some (ax_i x2), some (ax_i x3), some (ax_i x4)] [] V (ax_Nr Φ) Θ
abbrev k_Model_findSlots_275 (d : Nat) (x1 : Int) (x2 : Int) (x3 : Int) (y4 : Option Value) (V : ax_V) (Φ : ax_V → Prop) (Θ : ax_V → Prop) : Prop := ax_R ay_lay ax_t d m_Model_findSlots 275 [some (.ref 222), some (ax_i x1), some (ax_i x2), some (ax_i x3), y4] [] V (ax_Nr Φ) Θ
set_option maxRecDepth 20000 in
theorem r_Model_findSlots_2 {d : Nat} {V : ax_V} {Φ : ax_V → Prop} {Θ : ax_V → Prop} {x1 : Int} {y2 : Option Value} {y3 : Option Value} {y4 : Option Value} (hg : ax_g V) (hx1 : ax_rg x1) (hy2 : ax_y y2) (hy3 : ax_y y3) (hy4 : ax_y y4) (h : ((V 222 86 ≤ x1 → Φ V) ∧ (x1 < V 222 86 → (0 ≤ x1 ∧ x1 < 9) ∧ (∀ V1, V1 = ax_u V 288 x1 0 → (0 ≤ x1 ∧ x1 < 9) ∧ (∀ V2, V2 = ax_u V1 289 x1 1 → k_Model_findSlots_26 d x1 0 y3 y4 V2 Φ Θ))))) : k_Model_findSlots_2 d x1 y2 y3 y4 V Φ Θ := by
  refine ax_mv 2 4 [some (.ref 222), some (ax_i x1), y2, y3, y4] [.ref 222, ax_i x1] rfl ?_
  refine ax_gI (kI := 86) (pc' := 7) ⟨_, rfl⟩ fl_12_444 ay_222 rfl rfl rfl ?_
  refine ax_if2 (p1 := 333) (p2 := 10) ⟨_, rfl⟩ (by decide) rfl hx1 (hg _ _) (fun hc => ?_) (fun hc => ?_)
  · have h := h.1 hc
    exact ax_nret ⟨_, rfl⟩ rfl hg h
  · have h := h.2 (Int.not_le.mp hc)
    refine ax_mv 1 11 [some (.ref 222), some (ax_i x1), y2, y3, y4] [.ref 222] rfl ?_
    refine ax_gR (v := .ref 288) (pc' := 14) ⟨_, rfl⟩ fl_12_206 ay_222 rfl rfl ?_
    refine ax_mv 2 16 [some (.ref 222), some (ax_i x1), y2, y3, y4] [ax_i 0, ax_i x1, .ref 288] rfl ?_
    obtain ⟨o1, h⟩ := h
    obtain ⟨V1, eV1⟩ : ∃ W9 : ax_V, W9 = ax_u V 288 x1 0 := ⟨_, rfl⟩
    have h := h V1 eV1
    have hg1 : ax_g V1 := eV1 ▸ ax_u_g hg (by decide)
    refine ax_ist (n := 9) (pc' := 17) ⟨_, rfl⟩ ay_ok ay_288 (by decide) o1 eV1 rfl ?_
    refine ax_mv 1 18 [some (.ref 222), some (ax_i x1), y2, y3, y4] [.ref 222] rfl ?_
    refine ax_gR (v := .ref 289) (pc' := 21) ⟨_, rfl⟩ fl_12_209 ay_222 rfl rfl ?_
    refine ax_mv 2 23 [some (.ref 222), some (ax_i x1), y2, y3, y4] [ax_i 1, ax_i x1, .ref 289] rfl ?_
    obtain ⟨o2, h⟩ := h
    obtain ⟨V2, eV2⟩ : ∃ W9 : ax_V, W9 = ax_u V1 289 x1 1 := ⟨_, rfl⟩
    have h := h V2 eV2
    have hg2 : ax_g V2 := eV2 ▸ ax_u_g hg1 (by decide)
    refine ax_ist (n := 9) (pc' := 24) ⟨_, rfl⟩ ay_ok ay_289 (by decide) o2 eV2 rfl ?_
    refine ax_mv 1 25 [some (.ref 222), some (ax_i x1), y2, y3, y4] [ax_i 0] rfl ?_
    refine ax_sti (i := 0) (k := 2) (n := 1) (pc' := 26) (L' := [some (.ref 222), some (ax_i x1), some (ax_i 0), y3, y4]) ⟨_, rfl⟩ rfl rfl rfl (Nat.le_of_ble_eq_true rfl) rfl rfl ?_
    exact h
set_option maxRecDepth 20000 in
theorem r_Model_findSlots_26 {d : Nat} {V : ax_V} {Φ : ax_V → Prop} {Θ : ax_V → Prop} {x1 : Int} {x2 : Int} {y3 : Option Value} {y4 : Option Value} (hg : ax_g V) (hx1 : ax_rg x1) (hx2 : ax_rg x2) (hy3 : ax_y y3) (hy4 : ax_y y4) (h : ((26 ≤ x2 → k_Model_findSlots_81 d x1 0 y3 y4 V Φ Θ) ∧ (x2 < 26 → (0 ≤ (26 * x1) + x2 ∧ (26 * x1) + x2 < 240) ∧ ((V 236 ((26 * x1) + x2) = 0 → k_Model_findSlots_26 d x1 (x2 + 1) y3 y4 V Φ Θ) ∧ (¬ V 236 ((26 * x1) + x2) = 0 → (0 ≤ (26 * x1) + x2 ∧ (26 * x1) + x2 < 240) ∧ ax_I ay_lay d q_Model_place [.ref 222, ax_i x1, ax_i (V 237 ((26 * x1) + x2))] V (fun r1 V1 => (0 ≤ (26 * x1) + x2 ∧ (26 * x1) + x2 < 240) ∧ (∀ V2, V2 = ax_u V1 240 ((26 * x1) + x2) r1 → k_Model_findSlots_26 d x1 (x2 + 1) y3 y4 V2 Φ Θ)) Θ))))) : k_Model_findSlots_26 d x1 x2 y3 y4 V Φ Θ := by
  refine ax_mv 1 27 [some (.ref 222), some (ax_i x1), some (ax_i x2), y3, y4] [ax_i x2] rfl ?_
  refine ax_bip (pc' := 29) ⟨_, rfl⟩ (by decide) rfl ?_
  refine ax_if2 (p1 := 79) (p2 := 32) ⟨_, rfl⟩ (by decide) rfl hx2 (by decide) (fun hc => ?_) (fun hc => ?_)
  · have h := h.1 hc
    refine ax_mv 1 80 [some (.ref 222), some (ax_i x1), some (ax_i x2), y3, y4] [ax_i 0] rfl ?_
    refine ax_sti (i := 0) (k := 2) (n := 1) (pc' := 81) (L' := [some (.ref 222), some (ax_i x1), some (ax_i 0), y3, y4]) ⟨_, rfl⟩ rfl rfl rfl (Nat.le_of_ble_eq_true rfl) rfl rfl ?_
    exact h
  · have h := h.2 (Int.not_le.mp hc)
    refine ax_mv 1 33 [some (.ref 222), some (ax_i x1), some (ax_i x2), y3, y4] [.ref 222] rfl ?_
    refine ax_gR (v := .ref 236) (pc' := 36) ⟨_, rfl⟩ fl_12_49 ay_222 rfl rfl ?_
    refine ax_bip (pc' := 38) ⟨_, rfl⟩ (by decide) rfl ?_
    refine ax_mv 1 39 [some (.ref 222), some (ax_i x1), some (ax_i x2), y3, y4] [ax_i x1, ax_i 26, .ref 236] rfl ?_
    refine ax_mul (pc' := 40) ⟨_, rfl⟩ rfl ?_
    refine ax_mv 1 41 [some (.ref 222), some (ax_i x1), some (ax_i x2), y3, y4] [ax_i x2, ax_i (26 * x1), .ref 236] rfl ?_
    refine ax_add (pc' := 42) ⟨_, rfl⟩ rfl ?_
    obtain ⟨o3, h⟩ := h
    refine ax_bld (n := 240) (pc' := 43) ⟨_, rfl⟩ ay_236 (by decide) o3 rfl ?_
    refine ax_if (p1 := 73) (p2 := 46) ⟨_, rfl⟩ (by decide) rfl (hg _ _) (fun hc => ?_) (fun hc => ?_)
    · have h := h.1 hc
      refine ax_inc (x := x2) (pc' := 76) (L' := [some (.ref 222), some (ax_i x1), some (ax_i (x2 + 1)), y3, y4]) ⟨_, rfl⟩ rfl rfl rfl rfl ?_
      refine ax_mv 1 26 [some (.ref 222), some (ax_i x1), some (ax_i (x2 + 1)), y3, y4] [] rfl ?_
      exact h
    · have h := h.2 hc
      refine ax_mv 1 47 [some (.ref 222), some (ax_i x1), some (ax_i x2), y3, y4] [.ref 222] rfl ?_
      refine ax_gR (v := .ref 240) (pc' := 50) ⟨_, rfl⟩ fl_12_62 ay_222 rfl rfl ?_
      refine ax_bip (pc' := 52) ⟨_, rfl⟩ (by decide) rfl ?_
      refine ax_mv 1 53 [some (.ref 222), some (ax_i x1), some (ax_i x2), y3, y4] [ax_i x1, ax_i 26, .ref 240] rfl ?_
      refine ax_mul (pc' := 54) ⟨_, rfl⟩ rfl ?_
      refine ax_mv 1 55 [some (.ref 222), some (ax_i x1), some (ax_i x2), y3, y4] [ax_i x2, ax_i (26 * x1), .ref 240] rfl ?_
      refine ax_add (pc' := 56) ⟨_, rfl⟩ rfl ?_
      refine ax_mv 3 59 [some (.ref 222), some (ax_i x1), some (ax_i x2), y3, y4] [.ref 222, ax_i x1, .ref 222, ax_i ((26 * x1) + x2), .ref 240] rfl ?_
      refine ax_gR (v := .ref 237) (pc' := 62) ⟨_, rfl⟩ fl_12_53 ay_222 rfl rfl ?_
      refine ax_bip (pc' := 64) ⟨_, rfl⟩ (by decide) rfl ?_
      refine ax_mv 1 65 [some (.ref 222), some (ax_i x1), some (ax_i x2), y3, y4] [ax_i x1, ax_i 26, .ref 237, ax_i x1, .ref 222, ax_i ((26 * x1) + x2), .ref 240] rfl ?_
      refine ax_mul (pc' := 66) ⟨_, rfl⟩ rfl ?_
      refine ax_mv 1 67 [some (.ref 222), some (ax_i x1), some (ax_i x2), y3, y4] [ax_i x2, ax_i (26 * x1), .ref 237, ax_i x1, .ref 222, ax_i ((26 * x1) + x2), .ref 240] rfl ?_
      refine ax_add (pc' := 68) ⟨_, rfl⟩ rfl ?_
      obtain ⟨o4, h⟩ := h
      refine ax_ild (n := 240) (pc' := 69) ⟨_, rfl⟩ ay_237 (by decide) o4 rfl ?_
      refine ax_callI (pc' := 72) ⟨_, rfl⟩ ml_12_598 (rest := [ax_i ((26 * x1) + x2), .ref 240]) rfl (fun ss hs => ⟨_, _, ay_222 ss hs⟩) (Nat.le_of_ble_eq_true rfl) rfl rfl h (fun r1 V1 hg1 hr1 h => ?_)
      obtain ⟨o5, h⟩ := h
      obtain ⟨V2, eV2⟩ : ∃ W9 : ax_V, W9 = ax_u V1 240 ((26 * x1) + x2) r1 := ⟨_, rfl⟩
      have h := h V2 eV2
      have hg2 : ax_g V2 := eV2 ▸ ax_u_g hg1 hr1
      refine ax_ist (n := 240) (pc' := 73) ⟨_, rfl⟩ ay_ok ay_240 (by decide) o5 eV2 rfl ?_
      refine ax_inc (x := x2) (pc' := 76) (L' := [some (.ref 222), some (ax_i x1), some (ax_i (x2 + 1)), y3, y4]) ⟨_, rfl⟩ rfl rfl rfl rfl ?_
      refine ax_mv 1 26 [some (.ref 222), some (ax_i x1), some (ax_i (x2 + 1)), y3, y4] [] rfl ?_
      exact h
set_option maxRecDepth 20000 in
theorem r_Model_findSlots_81 {d : Nat} {V : ax_V} {Φ : ax_V → Prop} {Θ : ax_V → Prop} {x1 : Int} {x2 : Int} {y3 : Option Value} {y4 : Option Value} (hg : ax_g V) (hx1 : ax_rg x1) (hx2 : ax_rg x2) (hy3 : ax_y y3) (hy4 : ax_y y4) (h : ((V 222 55 ≤ x2 → k_Model_findSlots_119 d x1 0 y3 y4 V Φ Θ) ∧ (x2 < V 222 55 → (0 ≤ x2 ∧ x2 < 351) ∧ ((V 267 x2 = x1 → ax_I ay_lay d q_Model_place [.ref 222, ax_i x1, ax_i 0] V (fun r1 V1 => (0 ≤ x2 ∧ x2 < 351) ∧ (∀ V2, V2 = ax_u V1 270 x2 r1 → k_Model_findSlots_81 d x1 (x2 + 1) y3 y4 V2 Φ Θ)) Θ) ∧ (¬ V 267 x2 = x1 → k_Model_findSlots_81 d x1 (x2 + 1) y3 y4 V Φ Θ))))) : k_Model_findSlots_81 d x1 x2 y3 y4 V Φ Θ := by
  refine ax_mv 2 83 [some (.ref 222), some (ax_i x1), some (ax_i x2), y3, y4] [.ref 222, ax_i x2] rfl ?_
  refine ax_gI (kI := 55) (pc' := 86) ⟨_, rfl⟩ fl_12_423 ay_222 rfl rfl rfl ?_
  refine ax_if2 (p1 := 117) (p2 := 89) ⟨_, rfl⟩ (by decide) rfl hx2 (hg _ _) (fun hc => ?_) (fun hc => ?_)
  · have h := h.1 hc
    refine ax_mv 1 118 [some (.ref 222), some (ax_i x1), some (ax_i x2), y3, y4] [ax_i 0] rfl ?_
    refine ax_sti (i := 0) (k := 2) (n := 1) (pc' := 119) (L' := [some (.ref 222), some (ax_i x1), some (ax_i 0), y3, y4]) ⟨_, rfl⟩ rfl rfl rfl (Nat.le_of_ble_eq_true rfl) rfl rfl ?_
    exact h
  · have h := h.2 (Int.not_le.mp hc)
    refine ax_mv 1 90 [some (.ref 222), some (ax_i x1), some (ax_i x2), y3, y4] [.ref 222] rfl ?_
    refine ax_gR (v := .ref 267) (pc' := 93) ⟨_, rfl⟩ fl_12_143 ay_222 rfl rfl ?_
    refine ax_mv 1 94 [some (.ref 222), some (ax_i x1), some (ax_i x2), y3, y4] [ax_i x2, .ref 267] rfl ?_
    obtain ⟨o6, h⟩ := h
    refine ax_ild (n := 351) (pc' := 95) ⟨_, rfl⟩ ay_267 (by decide) o6 rfl ?_
    refine ax_mv 1 96 [some (.ref 222), some (ax_i x1), some (ax_i x2), y3, y4] [ax_i x1, ax_i (V 267 x2)] rfl ?_
    refine ax_if2 (p1 := 111) (p2 := 99) ⟨_, rfl⟩ (by decide) rfl (hg _ _) hx1 (fun hc => ?_) (fun hc => ?_)
    · have h := h.2 hc
      refine ax_inc (x := x2) (pc' := 114) (L' := [some (.ref 222), some (ax_i x1), some (ax_i (x2 + 1)), y3, y4]) ⟨_, rfl⟩ rfl rfl rfl rfl ?_
      refine ax_mv 1 81 [some (.ref 222), some (ax_i x1), some (ax_i (x2 + 1)), y3, y4] [] rfl ?_
      exact h
    · have h := h.1 (Classical.not_not.mp hc)
      refine ax_mv 1 100 [some (.ref 222), some (ax_i x1), some (ax_i x2), y3, y4] [.ref 222] rfl ?_
      refine ax_gR (v := .ref 270) (pc' := 103) ⟨_, rfl⟩ fl_12_152 ay_222 rfl rfl ?_
      refine ax_mv 4 107 [some (.ref 222), some (ax_i x1), some (ax_i x2), y3, y4] [ax_i 0, ax_i x1, .ref 222, ax_i x2, .ref 270] rfl ?_
      refine ax_callI (pc' := 110) ⟨_, rfl⟩ ml_12_598 (rest := [ax_i x2, .ref 270]) rfl (fun ss hs => ⟨_, _, ay_222 ss hs⟩) (Nat.le_of_ble_eq_true rfl) rfl rfl h (fun r1 V1 hg1 hr1 h => ?_)
      obtain ⟨o7, h⟩ := h
      obtain ⟨V2, eV2⟩ : ∃ W9 : ax_V, W9 = ax_u V1 270 x2 r1 := ⟨_, rfl⟩
      have h := h V2 eV2
      have hg2 : ax_g V2 := eV2 ▸ ax_u_g hg1 hr1
      refine ax_ist (n := 351) (pc' := 111) ⟨_, rfl⟩ ay_ok ay_270 (by decide) o7 eV2 rfl ?_
      refine ax_inc (x := x2) (pc' := 114) (L' := [some (.ref 222), some (ax_i x1), some (ax_i (x2 + 1)), y3, y4]) ⟨_, rfl⟩ rfl rfl rfl rfl ?_
      refine ax_mv 1 81 [some (.ref 222), some (ax_i x1), some (ax_i (x2 + 1)), y3, y4] [] rfl ?_
      exact h
set_option maxRecDepth 20000 in
theorem r_Model_findSlots_119 {d : Nat} {V : ax_V} {Φ : ax_V → Prop} {Θ : ax_V → Prop} {x1 : Int} {x2 : Int} {y3 : Option Value} {y4 : Option Value} (hg : ax_g V) (hx1 : ax_rg x1) (hx2 : ax_rg x2) (hy3 : ax_y y3) (hy4 : ax_y y4) (h : ((V 222 26 ≤ x2 → k_Model_findSlots_2 d (x1 + 1) (some (ax_i x2)) y3 y4 V Φ Θ) ∧ (x2 < V 222 26 → (0 ≤ x2 ∧ x2 < 701) ∧ ((V 250 x2 = x1 → (0 ≤ x2 ∧ x2 < 701) ∧ ((V 241 x2 = 6 → k_Model_findSlots_162 d x1 x2 y3 y4 V Φ Θ) ∧ (¬ V 241 x2 = 6 → (0 ≤ x2 ∧ x2 < 701) ∧ ((V 241 x2 = 19 → k_Model_findSlots_162 d x1 x2 y3 y4 V Φ Θ) ∧ (¬ V 241 x2 = 19 → (0 ≤ x2 ∧ x2 < 701) ∧ ((V 241 x2 = 22 → (0 ≤ x2 ∧ x2 < 701) ∧ (0 ≤ x1 ∧ x1 < 9) ∧ (0 ≤ x2 ∧ x2 < 701) ∧ (∀ V1, V1 = ax_u V 257 x2 (V 288 x1) → k_Model_findSlots_210 d x1 x2 (V 251 x2) 0 V1 Φ Θ)) ∧ (¬ V 241 x2 = 22 → k_Model_findSlots_119 d x1 (x2 + 1) y3 y4 V Φ Θ))))))) ∧ (¬ V 250 x2 = x1 → k_Model_findSlots_119 d x1 (x2 + 1) y3 y4 V Φ Θ))))) : k_Model_findSlots_119 d x1 x2 y3 y4 V Φ Θ := by
  refine ax_mv 2 121 [some (.ref 222), some (ax_i x1), some (ax_i x2), y3, y4] [.ref 222, ax_i x2] rfl ?_
  refine ax_gI (kI := 26) (pc' := 124) ⟨_, rfl⟩ fl_12_317 ay_222 rfl rfl rfl ?_
  refine ax_if2 (p1 := 327) (p2 := 127) ⟨_, rfl⟩ (by decide) rfl hx2 (hg _ _) (fun hc => ?_) (fun hc => ?_)
  · have h := h.1 hc
    refine ax_inc (x := x1) (pc' := 330) (L' := [some (.ref 222), some (ax_i (x1 + 1)), some (ax_i x2), y3, y4]) ⟨_, rfl⟩ rfl rfl rfl rfl ?_
    refine ax_mv 1 2 [some (.ref 222), some (ax_i (x1 + 1)), some (ax_i x2), y3, y4] [] rfl ?_
    exact h
  · have h := h.2 (Int.not_le.mp hc)
    refine ax_mv 1 128 [some (.ref 222), some (ax_i x1), some (ax_i x2), y3, y4] [.ref 222] rfl ?_
    refine ax_gR (v := .ref 250) (pc' := 131) ⟨_, rfl⟩ fl_12_92 ay_222 rfl rfl ?_
    refine ax_mv 1 132 [some (.ref 222), some (ax_i x1), some (ax_i x2), y3, y4] [ax_i x2, .ref 250] rfl ?_
    obtain ⟨o8, h⟩ := h
    refine ax_ild (n := 701) (pc' := 133) ⟨_, rfl⟩ ay_250 (by decide) o8 rfl ?_
    refine ax_mv 1 134 [some (.ref 222), some (ax_i x1), some (ax_i x2), y3, y4] [ax_i x1, ax_i (V 250 x2)] rfl ?_
    refine ax_if2 (p1 := 140) (p2 := 137) ⟨_, rfl⟩ (by decide) rfl (hg _ _) hx1 (fun hc => ?_) (fun hc => ?_)
    · have h := h.1 hc
      refine ax_mv 1 141 [some (.ref 222), some (ax_i x1), some (ax_i x2), y3, y4] [.ref 222] rfl ?_
      refine ax_gR (v := .ref 241) (pc' := 144) ⟨_, rfl⟩ fl_12_65 ay_222 rfl rfl ?_
      refine ax_mv 1 145 [some (.ref 222), some (ax_i x1), some (ax_i x2), y3, y4] [ax_i x2, .ref 241] rfl ?_
      obtain ⟨o9, h⟩ := h
      refine ax_ild (n := 701) (pc' := 146) ⟨_, rfl⟩ ay_241 (by decide) o9 rfl ?_
      refine ax_bip (pc' := 148) ⟨_, rfl⟩ (by decide) rfl ?_
      refine ax_if2 (p1 := 162) (p2 := 151) ⟨_, rfl⟩ (by decide) rfl (hg _ _) (by decide) (fun hc => ?_) (fun hc => ?_)
      · have h := h.1 hc
        exact h
      · have h := h.2 hc
        refine ax_mv 1 152 [some (.ref 222), some (ax_i x1), some (ax_i x2), y3, y4] [.ref 222] rfl ?_
        refine ax_gR (v := .ref 241) (pc' := 155) ⟨_, rfl⟩ fl_12_65 ay_222 rfl rfl ?_
        refine ax_mv 1 156 [some (.ref 222), some (ax_i x1), some (ax_i x2), y3, y4] [ax_i x2, .ref 241] rfl ?_
        obtain ⟨o10, h⟩ := h
        refine ax_ild (n := 701) (pc' := 157) ⟨_, rfl⟩ ay_241 (by decide) o10 rfl ?_
        refine ax_bip (pc' := 159) ⟨_, rfl⟩ (by decide) rfl ?_
        refine ax_if2 (p1 := 174) (p2 := 162) ⟨_, rfl⟩ (by decide) rfl (hg _ _) (by decide) (fun hc => ?_) (fun hc => ?_)
        · have h := h.2 hc
          refine ax_mv 1 175 [some (.ref 222), some (ax_i x1), some (ax_i x2), y3, y4] [.ref 222] rfl ?_
          refine ax_gR (v := .ref 241) (pc' := 178) ⟨_, rfl⟩ fl_12_65 ay_222 rfl rfl ?_
          refine ax_mv 1 179 [some (.ref 222), some (ax_i x1), some (ax_i x2), y3, y4] [ax_i x2, .ref 241] rfl ?_
          obtain ⟨o11, h⟩ := h
          refine ax_ild (n := 701) (pc' := 180) ⟨_, rfl⟩ ay_241 (by decide) o11 rfl ?_
          refine ax_bip (pc' := 182) ⟨_, rfl⟩ (by decide) rfl ?_
          refine ax_if2 (p1 := 188) (p2 := 185) ⟨_, rfl⟩ (by decide) rfl (hg _ _) (by decide) (fun hc => ?_) (fun hc => ?_)
          · have h := h.1 hc
            refine ax_mv 1 189 [some (.ref 222), some (ax_i x1), some (ax_i x2), y3, y4] [.ref 222] rfl ?_
            refine ax_gR (v := .ref 251) (pc' := 192) ⟨_, rfl⟩ fl_12_95 ay_222 rfl rfl ?_
            refine ax_mv 1 193 [some (.ref 222), some (ax_i x1), some (ax_i x2), y3, y4] [ax_i x2, .ref 251] rfl ?_
            obtain ⟨o12, h⟩ := h
            refine ax_ild (n := 701) (pc' := 194) ⟨_, rfl⟩ ay_251 (by decide) o12 rfl ?_
            refine ax_sti (i := 0) (k := 3) (n := 1) (pc' := 195) (L' := [some (.ref 222), some (ax_i x1), some (ax_i x2), some (ax_i (V 251 x2)), y4]) ⟨_, rfl⟩ rfl rfl rfl (Nat.le_of_ble_eq_true rfl) rfl rfl ?_
            refine ax_mv 1 196 [some (.ref 222), some (ax_i x1), some (ax_i x2), some (ax_i (V 251 x2)), y4] [.ref 222] rfl ?_
            refine ax_gR (v := .ref 257) (pc' := 199) ⟨_, rfl⟩ fl_12_113 ay_222 rfl rfl ?_
            refine ax_mv 2 201 [some (.ref 222), some (ax_i x1), some (ax_i x2), some (ax_i (V 251 x2)), y4] [.ref 222, ax_i x2, .ref 257] rfl ?_
            refine ax_gR (v := .ref 288) (pc' := 204) ⟨_, rfl⟩ fl_12_206 ay_222 rfl rfl ?_
            refine ax_mv 1 205 [some (.ref 222), some (ax_i x1), some (ax_i x2), some (ax_i (V 251 x2)), y4] [ax_i x1, .ref 288, ax_i x2, .ref 257] rfl ?_
            obtain ⟨o13, h⟩ := h
            refine ax_ild (n := 9) (pc' := 206) ⟨_, rfl⟩ ay_288 (by decide) o13 rfl ?_
            obtain ⟨o14, h⟩ := h
            obtain ⟨V1, eV1⟩ : ∃ W9 : ax_V, W9 = ax_u V 257 x2 (V 288 x1) := ⟨_, rfl⟩
            have h := h V1 eV1
            have hg1 : ax_g V1 := eV1 ▸ ax_u_g hg (hg _ _)
            refine ax_ist (n := 701) (pc' := 207) ⟨_, rfl⟩ ay_ok ay_257 (by decide) o14 eV1 rfl ?_
            refine ax_mv 1 208 [some (.ref 222), some (ax_i x1), some (ax_i x2), some (ax_i (V 251 x2)), y4] [ax_i 0] rfl ?_
            refine ax_sti (i := 0) (k := 4) (n := 2) (pc' := 210) (L' := [some (.ref 222), some (ax_i x1), some (ax_i x2), some (ax_i (V 251 x2)), some (ax_i 0)]) ⟨_, rfl⟩ rfl rfl rfl (Nat.le_of_ble_eq_true rfl) rfl rfl ?_
            exact h
          · have h := h.2 hc
            refine ax_mv 1 321 [some (.ref 222), some (ax_i x1), some (ax_i x2), y3, y4] [] rfl ?_
            refine ax_inc (x := x2) (pc' := 324) (L' := [some (.ref 222), some (ax_i x1), some (ax_i (x2 + 1)), y3, y4]) ⟨_, rfl⟩ rfl rfl rfl rfl ?_
            refine ax_mv 1 119 [some (.ref 222), some (ax_i x1), some (ax_i (x2 + 1)), y3, y4] [] rfl ?_
            exact h
        · have h := h.1 (Classical.not_not.mp hc)
          exact h
    · have h := h.2 hc
      refine ax_mv 1 321 [some (.ref 222), some (ax_i x1), some (ax_i x2), y3, y4] [] rfl ?_
      refine ax_inc (x := x2) (pc' := 324) (L' := [some (.ref 222), some (ax_i x1), some (ax_i (x2 + 1)), y3, y4]) ⟨_, rfl⟩ rfl rfl rfl rfl ?_
      refine ax_mv 1 119 [some (.ref 222), some (ax_i x1), some (ax_i (x2 + 1)), y3, y4] [] rfl ?_
      exact h
set_option maxRecDepth 20000 in
theorem r_Model_findSlots_162 {d : Nat} {V : ax_V} {Φ : ax_V → Prop} {Θ : ax_V → Prop} {x1 : Int} {x2 : Int} {y3 : Option Value} {y4 : Option Value} (hg : ax_g V) (hx1 : ax_rg x1) (hx2 : ax_rg x2) (hy3 : ax_y y3) (hy4 : ax_y y4) (h : ax_I ay_lay d q_Model_place [.ref 222, ax_i x1, ax_i 0] V (fun r1 V1 => (0 ≤ x2 ∧ x2 < 701) ∧ (∀ V2, V2 = ax_u V1 257 x2 r1 → (0 ≤ x2 ∧ x2 < 701) ∧ ((V2 241 x2 = 22 → (0 ≤ x2 ∧ x2 < 701) ∧ (0 ≤ x1 ∧ x1 < 9) ∧ (0 ≤ x2 ∧ x2 < 701) ∧ (∀ V3, V3 = ax_u V2 257 x2 (V2 288 x1) → k_Model_findSlots_210 d x1 x2 (V2 251 x2) 0 V3 Φ Θ)) ∧ (¬ V2 241 x2 = 22 → k_Model_findSlots_119 d x1 (x2 + 1) y3 y4 V2 Φ Θ)))) Θ) : k_Model_findSlots_162 d x1 x2 y3 y4 V Φ Θ := by
  refine ax_mv 1 163 [some (.ref 222), some (ax_i x1), some (ax_i x2), y3, y4] [.ref 222] rfl ?_
  refine ax_gR (v := .ref 257) (pc' := 166) ⟨_, rfl⟩ fl_12_113 ay_222 rfl rfl ?_
  refine ax_mv 4 170 [some (.ref 222), some (ax_i x1), some (ax_i x2), y3, y4] [ax_i 0, ax_i x1, .ref 222, ax_i x2, .ref 257] rfl ?_
  refine ax_callI (pc' := 173) ⟨_, rfl⟩ ml_12_598 (rest := [ax_i x2, .ref 257]) rfl (fun ss hs => ⟨_, _, ay_222 ss hs⟩) (Nat.le_of_ble_eq_true rfl) rfl rfl h (fun r1 V1 hg1 hr1 h => ?_)
  obtain ⟨o15, h⟩ := h
  obtain ⟨V2, eV2⟩ : ∃ W9 : ax_V, W9 = ax_u V1 257 x2 r1 := ⟨_, rfl⟩
  have h := h V2 eV2
  have hg2 : ax_g V2 := eV2 ▸ ax_u_g hg1 hr1
  refine ax_ist (n := 701) (pc' := 174) ⟨_, rfl⟩ ay_ok ay_257 (by decide) o15 eV2 rfl ?_
  refine ax_mv 1 175 [some (.ref 222), some (ax_i x1), some (ax_i x2), y3, y4] [.ref 222] rfl ?_
  refine ax_gR (v := .ref 241) (pc' := 178) ⟨_, rfl⟩ fl_12_65 ay_222 rfl rfl ?_
  refine ax_mv 1 179 [some (.ref 222), some (ax_i x1), some (ax_i x2), y3, y4] [ax_i x2, .ref 241] rfl ?_
  obtain ⟨o16, h⟩ := h
  refine ax_ild (n := 701) (pc' := 180) ⟨_, rfl⟩ ay_241 (by decide) o16 rfl ?_
  refine ax_bip (pc' := 182) ⟨_, rfl⟩ (by decide) rfl ?_
  refine ax_if2 (p1 := 188) (p2 := 185) ⟨_, rfl⟩ (by decide) rfl (hg2 _ _) (by decide) (fun hc => ?_) (fun hc => ?_)
  · have h := h.1 hc
    refine ax_mv 1 189 [some (.ref 222), some (ax_i x1), some (ax_i x2), y3, y4] [.ref 222] rfl ?_
    refine ax_gR (v := .ref 251) (pc' := 192) ⟨_, rfl⟩ fl_12_95 ay_222 rfl rfl ?_
    refine ax_mv 1 193 [some (.ref 222), some (ax_i x1), some (ax_i x2), y3, y4] [ax_i x2, .ref 251] rfl ?_
    obtain ⟨o17, h⟩ := h
    refine ax_ild (n := 701) (pc' := 194) ⟨_, rfl⟩ ay_251 (by decide) o17 rfl ?_
    refine ax_sti (i := 0) (k := 3) (n := 1) (pc' := 195) (L' := [some (.ref 222), some (ax_i x1), some (ax_i x2), some (ax_i (V2 251 x2)), y4]) ⟨_, rfl⟩ rfl rfl rfl (Nat.le_of_ble_eq_true rfl) rfl rfl ?_
    refine ax_mv 1 196 [some (.ref 222), some (ax_i x1), some (ax_i x2), some (ax_i (V2 251 x2)), y4] [.ref 222] rfl ?_
    refine ax_gR (v := .ref 257) (pc' := 199) ⟨_, rfl⟩ fl_12_113 ay_222 rfl rfl ?_
    refine ax_mv 2 201 [some (.ref 222), some (ax_i x1), some (ax_i x2), some (ax_i (V2 251 x2)), y4] [.ref 222, ax_i x2, .ref 257] rfl ?_
    refine ax_gR (v := .ref 288) (pc' := 204) ⟨_, rfl⟩ fl_12_206 ay_222 rfl rfl ?_
    refine ax_mv 1 205 [some (.ref 222), some (ax_i x1), some (ax_i x2), some (ax_i (V2 251 x2)), y4] [ax_i x1, .ref 288, ax_i x2, .ref 257] rfl ?_
    obtain ⟨o18, h⟩ := h
    refine ax_ild (n := 9) (pc' := 206) ⟨_, rfl⟩ ay_288 (by decide) o18 rfl ?_
    obtain ⟨o19, h⟩ := h
    obtain ⟨V3, eV3⟩ : ∃ W9 : ax_V, W9 = ax_u V2 257 x2 (V2 288 x1) := ⟨_, rfl⟩
    have h := h V3 eV3
    have hg3 : ax_g V3 := eV3 ▸ ax_u_g hg2 (hg2 _ _)
    refine ax_ist (n := 701) (pc' := 207) ⟨_, rfl⟩ ay_ok ay_257 (by decide) o19 eV3 rfl ?_
    refine ax_mv 1 208 [some (.ref 222), some (ax_i x1), some (ax_i x2), some (ax_i (V2 251 x2)), y4] [ax_i 0] rfl ?_
    refine ax_sti (i := 0) (k := 4) (n := 2) (pc' := 210) (L' := [some (.ref 222), some (ax_i x1), some (ax_i x2), some (ax_i (V2 251 x2)), some (ax_i 0)]) ⟨_, rfl⟩ rfl rfl rfl (Nat.le_of_ble_eq_true rfl) rfl rfl ?_
    exact h
  · have h := h.2 hc
    refine ax_mv 1 321 [some (.ref 222), some (ax_i x1), some (ax_i x2), y3, y4] [] rfl ?_
    refine ax_inc (x := x2) (pc' := 324) (L' := [some (.ref 222), some (ax_i x1), some (ax_i (x2 + 1)), y3, y4]) ⟨_, rfl⟩ rfl rfl rfl rfl ?_
    refine ax_mv 1 119 [some (.ref 222), some (ax_i x1), some (ax_i (x2 + 1)), y3, y4] [] rfl ?_
    exact h
set_option maxRecDepth 20000 in
theorem r_Model_findSlots_210 {d : Nat} {V : ax_V} {Φ : ax_V → Prop} {Θ : ax_V → Prop} {x1 : Int} {x2 : Int} {x3 : Int} {x4 : Int} (hg : ax_g V) (hx1 : ax_rg x1) (hx2 : ax_rg x2) (hx3 : ax_rg x3) (hx4 : ax_rg x4) (h : (0 ≤ x3 ∧ x3 < 9) ∧ ((V 288 x3 ≤ x4 → k_Model_findSlots_275 d x1 x2 x3 (some (ax_i x4)) V Φ Θ) ∧ (x4 < V 288 x3 → (0 ≤ x1 ∧ x1 < 9) ∧ ax_rg ((V 288 x1) + x4) ∧ ((300 ≤ (V 288 x1) + x4 → k_Model_findSlots_275 d x1 x2 x3 (some (ax_i x4)) V Φ Θ) ∧ ((V 288 x1) + x4 < 300 → (0 ≤ x1 ∧ x1 < 9) ∧ (0 ≤ (300 * x3) + x4 ∧ (300 * x3) + x4 < 2700) ∧ (0 ≤ ((300 * x1) + (V 288 x1)) + x4 ∧ ((300 * x1) + (V 288 x1)) + x4 < 2700) ∧ (∀ V1, V1 = ax_u V 290 (((300 * x1) + (V 288 x1)) + x4) (V 290 ((300 * x3) + x4)) → k_Model_findSlots_210 d x1 x2 x3 (x4 + 1) V1 Φ Θ)))))) : k_Model_findSlots_210 d x1 x2 x3 x4 V Φ Θ := by
  refine ax_mv 2 213 [some (.ref 222), some (ax_i x1), some (ax_i x2), some (ax_i x3), some (ax_i x4)] [.ref 222, ax_i x4] rfl ?_
  refine ax_gR (v := .ref 288) (pc' := 216) ⟨_, rfl⟩ fl_12_206 ay_222 rfl rfl ?_
  refine ax_mv 1 217 [some (.ref 222), some (ax_i x1), some (ax_i x2), some (ax_i x3), some (ax_i x4)] [ax_i x3, .ref 288, ax_i x4] rfl ?_
  obtain ⟨o20, h⟩ := h
  refine ax_ild (n := 9) (pc' := 218) ⟨_, rfl⟩ ay_288 (by decide) o20 rfl ?_
  refine ax_if2 (p1 := 275) (p2 := 221) ⟨_, rfl⟩ (by decide) rfl hx4 (hg _ _) (fun hc => ?_) (fun hc => ?_)
  · have h := h.1 hc
    exact h
  · have h := h.2 (Int.not_le.mp hc)
    refine ax_mv 1 222 [some (.ref 222), some (ax_i x1), some (ax_i x2), some (ax_i x3), some (ax_i x4)] [.ref 222] rfl ?_
    refine ax_gR (v := .ref 288) (pc' := 225) ⟨_, rfl⟩ fl_12_206 ay_222 rfl rfl ?_
    refine ax_mv 1 226 [some (.ref 222), some (ax_i x1), some (ax_i x2), some (ax_i x3), some (ax_i x4)] [ax_i x1, .ref 288] rfl ?_
    obtain ⟨o21, h⟩ := h
    refine ax_ild (n := 9) (pc' := 227) ⟨_, rfl⟩ ay_288 (by decide) o21 rfl ?_
    refine ax_mv 1 229 [some (.ref 222), some (ax_i x1), some (ax_i x2), some (ax_i x3), some (ax_i x4)] [ax_i x4, ax_i (V 288 x1)] rfl ?_
    refine ax_add (pc' := 230) ⟨_, rfl⟩ rfl ?_
    refine ax_sip (pc' := 233) ⟨_, rfl⟩ (by decide) rfl ?_
    obtain ⟨o22, h⟩ := h
    refine ax_if2 (p1 := 275) (p2 := 236) ⟨_, rfl⟩ (by decide) rfl o22 (by decide) (fun hc => ?_) (fun hc => ?_)
    · have h := h.1 hc
      exact h
    · have h := h.2 (Int.not_le.mp hc)
      refine ax_mv 1 237 [some (.ref 222), some (ax_i x1), some (ax_i x2), some (ax_i x3), some (ax_i x4)] [.ref 222] rfl ?_
      refine ax_gR (v := .ref 290) (pc' := 240) ⟨_, rfl⟩ fl_12_212 ay_222 rfl rfl ?_
      refine ax_sip (pc' := 243) ⟨_, rfl⟩ (by decide) rfl ?_
      refine ax_mv 1 244 [some (.ref 222), some (ax_i x1), some (ax_i x2), some (ax_i x3), some (ax_i x4)] [ax_i x1, ax_i 300, .ref 290] rfl ?_
      refine ax_mul (pc' := 245) ⟨_, rfl⟩ rfl ?_
      refine ax_mv 1 246 [some (.ref 222), some (ax_i x1), some (ax_i x2), some (ax_i x3), some (ax_i x4)] [.ref 222, ax_i (300 * x1), .ref 290] rfl ?_
      refine ax_gR (v := .ref 288) (pc' := 249) ⟨_, rfl⟩ fl_12_206 ay_222 rfl rfl ?_
      refine ax_mv 1 250 [some (.ref 222), some (ax_i x1), some (ax_i x2), some (ax_i x3), some (ax_i x4)] [ax_i x1, .ref 288, ax_i (300 * x1), .ref 290] rfl ?_
      obtain ⟨o23, h⟩ := h
      refine ax_ild (n := 9) (pc' := 251) ⟨_, rfl⟩ ay_288 (by decide) o23 rfl ?_
      refine ax_add (pc' := 252) ⟨_, rfl⟩ rfl ?_
      refine ax_mv 1 254 [some (.ref 222), some (ax_i x1), some (ax_i x2), some (ax_i x3), some (ax_i x4)] [ax_i x4, ax_i ((300 * x1) + (V 288 x1)), .ref 290] rfl ?_
      refine ax_add (pc' := 255) ⟨_, rfl⟩ rfl ?_
      refine ax_mv 1 256 [some (.ref 222), some (ax_i x1), some (ax_i x2), some (ax_i x3), some (ax_i x4)] [.ref 222, ax_i (((300 * x1) + (V 288 x1)) + x4), .ref 290] rfl ?_
      refine ax_gR (v := .ref 290) (pc' := 259) ⟨_, rfl⟩ fl_12_212 ay_222 rfl rfl ?_
      refine ax_sip (pc' := 262) ⟨_, rfl⟩ (by decide) rfl ?_
      refine ax_mv 1 263 [some (.ref 222), some (ax_i x1), some (ax_i x2), some (ax_i x3), some (ax_i x4)] [ax_i x3, ax_i 300, .ref 290, ax_i (((300 * x1) + (V 288 x1)) + x4), .ref 290] rfl ?_
      refine ax_mul (pc' := 264) ⟨_, rfl⟩ rfl ?_
      refine ax_mv 1 266 [some (.ref 222), some (ax_i x1), some (ax_i x2), some (ax_i x3), some (ax_i x4)] [ax_i x4, ax_i (300 * x3), .ref 290, ax_i (((300 * x1) + (V 288 x1)) + x4), .ref 290] rfl ?_
      refine ax_add (pc' := 267) ⟨_, rfl⟩ rfl ?_
      obtain ⟨o24, h⟩ := h
      refine ax_ild (n := 2700) (pc' := 268) ⟨_, rfl⟩ ay_290 (by decide) o24 rfl ?_
      obtain ⟨o25, h⟩ := h
      obtain ⟨V1, eV1⟩ : ∃ W9 : ax_V, W9 = ax_u V 290 (((300 * x1) + (V 288 x1)) + x4) (V 290 ((300 * x3) + x4)) := ⟨_, rfl⟩
      have h := h V1 eV1
      have hg1 : ax_g V1 := eV1 ▸ ax_u_g hg (hg _ _)
      refine ax_ist (n := 2700) (pc' := 269) ⟨_, rfl⟩ ay_ok ay_290 (by decide) o25 eV1 rfl ?_
      refine ax_inc (x := x4) (pc' := 272) (L' := [some (.ref 222), some (ax_i x1), some (ax_i x2), some (ax_i x3), some (ax_i (x4 + 1))]) ⟨_, rfl⟩ rfl rfl rfl rfl ?_
      refine ax_mv 1 210 [some (.ref 222), some (ax_i x1), some (ax_i x2), some (ax_i x3), some (ax_i (x4 + 1))] [] rfl ?_
      exact h
set_option maxRecDepth 20000 in
theorem r_Model_findSlots_275 {d : Nat} {V : ax_V} {Φ : ax_V → Prop} {Θ : ax_V → Prop} {x1 : Int} {x2 : Int} {x3 : Int} {y4 : Option Value} (hg : ax_g V) (hx1 : ax_rg x1) (hx2 : ax_rg x2) (hx3 : ax_rg x3) (hy4 : ax_y y4) (h : (0 ≤ x1 ∧ x1 < 9) ∧ (0 ≤ x3 ∧ x3 < 9) ∧ ax_I ay_lay d q_Model_least [.ref 222, ax_i ((V 288 x1) + (V 288 x3))] V (fun r1 V1 => (0 ≤ x1 ∧ x1 < 9) ∧ (∀ V2, V2 = ax_u V1 288 x1 r1 → (0 ≤ x1 ∧ x1 < 9) ∧ (0 ≤ x3 ∧ x3 < 9) ∧ ax_I ay_lay d q_Model_least [.ref 222, ax_i ((V2 289 x1) + (V2 289 x3))] V2 (fun r3 V3 => (0 ≤ x1 ∧ x1 < 9) ∧ (∀ V4, V4 = ax_u V3 289 x1 r3 → k_Model_findSlots_119 d x1 (x2 + 1) (some (ax_i x3)) y4 V4 Φ Θ)) Θ)) Θ) : k_Model_findSlots_275 d x1 x2 x3 y4 V Φ Θ := by
  refine ax_mv 1 276 [some (.ref 222), some (ax_i x1), some (ax_i x2), some (ax_i x3), y4] [.ref 222] rfl ?_
  refine ax_gR (v := .ref 288) (pc' := 279) ⟨_, rfl⟩ fl_12_206 ay_222 rfl rfl ?_
  refine ax_mv 3 282 [some (.ref 222), some (ax_i x1), some (ax_i x2), some (ax_i x3), y4] [.ref 222, .ref 222, ax_i x1, .ref 288] rfl ?_
  refine ax_gR (v := .ref 288) (pc' := 285) ⟨_, rfl⟩ fl_12_206 ay_222 rfl rfl ?_
  refine ax_mv 1 286 [some (.ref 222), some (ax_i x1), some (ax_i x2), some (ax_i x3), y4] [ax_i x1, .ref 288, .ref 222, ax_i x1, .ref 288] rfl ?_
  obtain ⟨o26, h⟩ := h
  refine ax_ild (n := 9) (pc' := 287) ⟨_, rfl⟩ ay_288 (by decide) o26 rfl ?_
  refine ax_mv 1 288 [some (.ref 222), some (ax_i x1), some (ax_i x2), some (ax_i x3), y4] [.ref 222, ax_i (V 288 x1), .ref 222, ax_i x1, .ref 288] rfl ?_
  refine ax_gR (v := .ref 288) (pc' := 291) ⟨_, rfl⟩ fl_12_206 ay_222 rfl rfl ?_
  refine ax_mv 1 292 [some (.ref 222), some (ax_i x1), some (ax_i x2), some (ax_i x3), y4] [ax_i x3, .ref 288, ax_i (V 288 x1), .ref 222, ax_i x1, .ref 288] rfl ?_
  obtain ⟨o27, h⟩ := h
  refine ax_ild (n := 9) (pc' := 293) ⟨_, rfl⟩ ay_288 (by decide) o27 rfl ?_
  refine ax_add (pc' := 294) ⟨_, rfl⟩ rfl ?_
  refine ax_callI (pc' := 297) ⟨_, rfl⟩ ml_12_595 (rest := [ax_i x1, .ref 288]) rfl (fun ss hs => ⟨_, _, ay_222 ss hs⟩) (Nat.le_of_ble_eq_true rfl) rfl rfl h (fun r1 V1 hg1 hr1 h => ?_)
  obtain ⟨o28, h⟩ := h
  obtain ⟨V2, eV2⟩ : ∃ W9 : ax_V, W9 = ax_u V1 288 x1 r1 := ⟨_, rfl⟩
  have h := h V2 eV2
  have hg2 : ax_g V2 := eV2 ▸ ax_u_g hg1 hr1
  refine ax_ist (n := 9) (pc' := 298) ⟨_, rfl⟩ ay_ok ay_288 (by decide) o28 eV2 rfl ?_
  refine ax_mv 1 299 [some (.ref 222), some (ax_i x1), some (ax_i x2), some (ax_i x3), y4] [.ref 222] rfl ?_
  refine ax_gR (v := .ref 289) (pc' := 302) ⟨_, rfl⟩ fl_12_209 ay_222 rfl rfl ?_
  refine ax_mv 3 305 [some (.ref 222), some (ax_i x1), some (ax_i x2), some (ax_i x3), y4] [.ref 222, .ref 222, ax_i x1, .ref 289] rfl ?_
  refine ax_gR (v := .ref 289) (pc' := 308) ⟨_, rfl⟩ fl_12_209 ay_222 rfl rfl ?_
  refine ax_mv 1 309 [some (.ref 222), some (ax_i x1), some (ax_i x2), some (ax_i x3), y4] [ax_i x1, .ref 289, .ref 222, ax_i x1, .ref 289] rfl ?_
  obtain ⟨o29, h⟩ := h
  refine ax_ild (n := 9) (pc' := 310) ⟨_, rfl⟩ ay_289 (by decide) o29 rfl ?_
  refine ax_mv 1 311 [some (.ref 222), some (ax_i x1), some (ax_i x2), some (ax_i x3), y4] [.ref 222, ax_i (V2 289 x1), .ref 222, ax_i x1, .ref 289] rfl ?_
  refine ax_gR (v := .ref 289) (pc' := 314) ⟨_, rfl⟩ fl_12_209 ay_222 rfl rfl ?_
  refine ax_mv 1 315 [some (.ref 222), some (ax_i x1), some (ax_i x2), some (ax_i x3), y4] [ax_i x3, .ref 289, ax_i (V2 289 x1), .ref 222, ax_i x1, .ref 289] rfl ?_
  obtain ⟨o30, h⟩ := h
  refine ax_ild (n := 9) (pc' := 316) ⟨_, rfl⟩ ay_289 (by decide) o30 rfl ?_
  refine ax_add (pc' := 317) ⟨_, rfl⟩ rfl ?_
  refine ax_callI (pc' := 320) ⟨_, rfl⟩ ml_12_595 (rest := [ax_i x1, .ref 289]) rfl (fun ss hs => ⟨_, _, ay_222 ss hs⟩) (Nat.le_of_ble_eq_true rfl) rfl rfl h (fun r3 V3 hg3 hr3 h => ?_)
  obtain ⟨o31, h⟩ := h
  obtain ⟨V4, eV4⟩ : ∃ W9 : ax_V, W9 = ax_u V3 289 x1 r3 := ⟨_, rfl⟩
  have h := h V4 eV4
  have hg4 : ax_g V4 := eV4 ▸ ax_u_g hg3 hr3
  refine ax_ist (n := 9) (pc' := 321) ⟨_, rfl⟩ ay_ok ay_289 (by decide) o31 eV4 rfl ?_
  refine ax_inc (x := x2) (pc' := 324) (L' := [some (.ref 222), some (ax_i x1), some (ax_i (x2 + 1)), some (ax_i x3), y4]) ⟨_, rfl⟩ rfl rfl rfl rfl ?_
  refine ax_mv 1 119 [some (.ref 222), some (ax_i x1), some (ax_i (x2 + 1)), some (ax_i x3), y4] [] rfl ?_
  exact h
set_option maxRecDepth 20000 in
theorem r_Model_findSlots {d : Nat} {V : ax_V} {Φ : ax_V → Prop} {Θ : ax_V → Prop} (hg : ax_g V) (h : k_Model_findSlots_2 d 0 none none none V Φ Θ) : ax_N ay_lay (d + 1) q_Model_findSlots [.ref 222] V Φ Θ := by
  refine ax_T.of (M := m_Model_findSlots) rfl (Nat.le_of_ble_eq_true rfl) ?_
  refine ax_mv 0 0 [some (.ref 222), none, none, none, none] [] rfl ?_
  refine ax_mv 1 1 [some (.ref 222), none, none, none, none] [ax_i 0] rfl ?_
  refine ax_sti (i := 0) (k := 1) (n := 1) (pc' := 2) (L' := [some (.ref 222), some (ax_i 0), none, none, none]) ⟨_, rfl⟩ rfl rfl rfl (Nat.le_of_ble_eq_true rfl) rfl rfl ?_
  exact h
theorem r_Model_place {d : Nat} {V : ax_V} {Φ : Int → ax_V → Prop} {Θ : ax_V → Prop} {x1 : Int} {x2 : Int} (hg : ax_g V) (hx1 : ax_rg x1) (hx2 : ax_rg x2) (h : (0 ≤ x1 ∧ x1 < 9) ∧ ((300 ≤ V 288 x1 → (0 ≤ x1 ∧ x1 < 9) ∧ ax_I ay_lay d q_Model_least [.ref 222, ax_i ((V 288 x1) + 1)] V (fun r1 V1 => (0 ≤ x1 ∧ x1 < 9) ∧ (∀ V2, V2 = ax_u V1 288 x1 r1 → (0 ≤ x1 ∧ x1 < 9) ∧ ax_rg ((V2 288 x1) - 1) ∧ Φ ((V2 288 x1) - 1) V2)) Θ) ∧ (V 288 x1 < 300 → (0 ≤ x1 ∧ x1 < 9) ∧ (0 ≤ (300 * x1) + (V 288 x1) ∧ (300 * x1) + (V 288 x1) < 2700) ∧ (∀ V3, V3 = ax_u V 290 ((300 * x1) + (V 288 x1)) x2 → (0 ≤ x1 ∧ x1 < 9) ∧ ax_I ay_lay d q_Model_least [.ref 222, ax_i ((V3 288 x1) + 1)] V3 (fun r4 V4 => (0 ≤ x1 ∧ x1 < 9) ∧ (∀ V5, V5 = ax_u V4 288 x1 r4 → (0 ≤ x1 ∧ x1 < 9) ∧ ax_rg ((V5 288 x1) - 1) ∧ Φ ((V5 288 x1) - 1) V5)) Θ)))) : ax_I ay_lay (d + 1) q_Model_place [.ref 222, ax_i x1, ax_i x2] V Φ Θ := by
  refine ax_T.of (M := m_Model_place) rfl (Nat.le_of_ble_eq_true rfl) ?_
  refine ax_mv 0 0 [some (.ref 222), some (ax_i x1), some (ax_i x2)] [] rfl ?_
  refine ax_mv 1 1 [some (.ref 222), some (ax_i x1), some (ax_i x2)] [.ref 222] rfl ?_
  refine ax_gR (v := .ref 288) (pc' := 4) ⟨_, rfl⟩ fl_12_206 ay_222 rfl rfl ?_
  refine ax_mv 1 5 [some (.ref 222), some (ax_i x1), some (ax_i x2)] [ax_i x1, .ref 288] rfl ?_
  obtain ⟨o1, h⟩ := h
  refine ax_ild (n := 9) (pc' := 6) ⟨_, rfl⟩ ay_288 (by decide) o1 rfl ?_
  refine ax_sip (pc' := 9) ⟨_, rfl⟩ (by decide) rfl ?_
  refine ax_if2 (p1 := 30) (p2 := 12) ⟨_, rfl⟩ (by decide) rfl (hg _ _) (by decide) (fun hc => ?_) (fun hc => ?_)
  · have h := h.1 hc
    refine ax_mv 1 31 [some (.ref 222), some (ax_i x1), some (ax_i x2)] [.ref 222] rfl ?_
    refine ax_gR (v := .ref 288) (pc' := 34) ⟨_, rfl⟩ fl_12_206 ay_222 rfl rfl ?_
    refine ax_mv 3 37 [some (.ref 222), some (ax_i x1), some (ax_i x2)] [.ref 222, .ref 222, ax_i x1, .ref 288] rfl ?_
    refine ax_gR (v := .ref 288) (pc' := 40) ⟨_, rfl⟩ fl_12_206 ay_222 rfl rfl ?_
    refine ax_mv 1 41 [some (.ref 222), some (ax_i x1), some (ax_i x2)] [ax_i x1, .ref 288, .ref 222, ax_i x1, .ref 288] rfl ?_
    obtain ⟨o2, h⟩ := h
    refine ax_ild (n := 9) (pc' := 42) ⟨_, rfl⟩ ay_288 (by decide) o2 rfl ?_
    refine ax_mv 1 43 [some (.ref 222), some (ax_i x1), some (ax_i x2)] [ax_i 1, ax_i (V 288 x1), .ref 222, ax_i x1, .ref 288] rfl ?_
    refine ax_add (pc' := 44) ⟨_, rfl⟩ rfl ?_
    refine ax_callI (pc' := 47) ⟨_, rfl⟩ ml_12_595 (rest := [ax_i x1, .ref 288]) rfl (fun ss hs => ⟨_, _, ay_222 ss hs⟩) (Nat.le_of_ble_eq_true rfl) rfl rfl h (fun r1 V1 hg1 hr1 h => ?_)
    obtain ⟨o3, h⟩ := h
    obtain ⟨V2, eV2⟩ : ∃ W9 : ax_V, W9 = ax_u V1 288 x1 r1 := ⟨_, rfl⟩
    have h := h V2 eV2
    have hg2 : ax_g V2 := eV2 ▸ ax_u_g hg1 hr1
    refine ax_ist (n := 9) (pc' := 48) ⟨_, rfl⟩ ay_ok ay_288 (by decide) o3 eV2 rfl ?_
    refine ax_mv 1 49 [some (.ref 222), some (ax_i x1), some (ax_i x2)] [.ref 222] rfl ?_
    refine ax_gR (v := .ref 288) (pc' := 52) ⟨_, rfl⟩ fl_12_206 ay_222 rfl rfl ?_
    refine ax_mv 1 53 [some (.ref 222), some (ax_i x1), some (ax_i x2)] [ax_i x1, .ref 288] rfl ?_
    obtain ⟨o4, h⟩ := h
    refine ax_ild (n := 9) (pc' := 54) ⟨_, rfl⟩ ay_288 (by decide) o4 rfl ?_
    refine ax_mv 1 55 [some (.ref 222), some (ax_i x1), some (ax_i x2)] [ax_i 1, ax_i (V2 288 x1)] rfl ?_
    refine ax_sub (pc' := 56) ⟨_, rfl⟩ rfl ?_
    obtain ⟨o5, h⟩ := h
    exact ax_iret ⟨_, rfl⟩ rfl rfl o5 hg2 h
  · have h := h.2 (Int.not_le.mp hc)
    refine ax_mv 1 13 [some (.ref 222), some (ax_i x1), some (ax_i x2)] [.ref 222] rfl ?_
    refine ax_gR (v := .ref 290) (pc' := 16) ⟨_, rfl⟩ fl_12_212 ay_222 rfl rfl ?_
    refine ax_sip (pc' := 19) ⟨_, rfl⟩ (by decide) rfl ?_
    refine ax_mv 1 20 [some (.ref 222), some (ax_i x1), some (ax_i x2)] [ax_i x1, ax_i 300, .ref 290] rfl ?_
    refine ax_mul (pc' := 21) ⟨_, rfl⟩ rfl ?_
    refine ax_mv 1 22 [some (.ref 222), some (ax_i x1), some (ax_i x2)] [.ref 222, ax_i (300 * x1), .ref 290] rfl ?_
    refine ax_gR (v := .ref 288) (pc' := 25) ⟨_, rfl⟩ fl_12_206 ay_222 rfl rfl ?_
    refine ax_mv 1 26 [some (.ref 222), some (ax_i x1), some (ax_i x2)] [ax_i x1, .ref 288, ax_i (300 * x1), .ref 290] rfl ?_
    obtain ⟨o6, h⟩ := h
    refine ax_ild (n := 9) (pc' := 27) ⟨_, rfl⟩ ay_288 (by decide) o6 rfl ?_
    refine ax_add (pc' := 28) ⟨_, rfl⟩ rfl ?_
    refine ax_mv 1 29 [some (.ref 222), some (ax_i x1), some (ax_i x2)] [ax_i x2, ax_i ((300 * x1) + (V 288 x1)), .ref 290] rfl ?_
    obtain ⟨o7, h⟩ := h
    obtain ⟨V3, eV3⟩ : ∃ W9 : ax_V, W9 = ax_u V 290 ((300 * x1) + (V 288 x1)) x2 := ⟨_, rfl⟩
    have h := h V3 eV3
    have hg3 : ax_g V3 := eV3 ▸ ax_u_g hg hx2
    refine ax_ist (n := 2700) (pc' := 30) ⟨_, rfl⟩ ay_ok ay_290 (by decide) o7 eV3 rfl ?_
    refine ax_mv 1 31 [some (.ref 222), some (ax_i x1), some (ax_i x2)] [.ref 222] rfl ?_
    refine ax_gR (v := .ref 288) (pc' := 34) ⟨_, rfl⟩ fl_12_206 ay_222 rfl rfl ?_
    refine ax_mv 3 37 [some (.ref 222), some (ax_i x1), some (ax_i x2)] [.ref 222, .ref 222, ax_i x1, .ref 288] rfl ?_
    refine ax_gR (v := .ref 288) (pc' := 40) ⟨_, rfl⟩ fl_12_206 ay_222 rfl rfl ?_
    refine ax_mv 1 41 [some (.ref 222), some (ax_i x1), some (ax_i x2)] [ax_i x1, .ref 288, .ref 222, ax_i x1, .ref 288] rfl ?_
    obtain ⟨o8, h⟩ := h
    refine ax_ild (n := 9) (pc' := 42) ⟨_, rfl⟩ ay_288 (by decide) o8 rfl ?_
    refine ax_mv 1 43 [some (.ref 222), some (ax_i x1), some (ax_i x2)] [ax_i 1, ax_i (V3 288 x1), .ref 222, ax_i x1, .ref 288] rfl ?_
    refine ax_add (pc' := 44) ⟨_, rfl⟩ rfl ?_
    refine ax_callI (pc' := 47) ⟨_, rfl⟩ ml_12_595 (rest := [ax_i x1, .ref 288]) rfl (fun ss hs => ⟨_, _, ay_222 ss hs⟩) (Nat.le_of_ble_eq_true rfl) rfl rfl h (fun r4 V4 hg4 hr4 h => ?_)
    obtain ⟨o9, h⟩ := h
    obtain ⟨V5, eV5⟩ : ∃ W9 : ax_V, W9 = ax_u V4 288 x1 r4 := ⟨_, rfl⟩
    have h := h V5 eV5
    have hg5 : ax_g V5 := eV5 ▸ ax_u_g hg4 hr4
    refine ax_ist (n := 9) (pc' := 48) ⟨_, rfl⟩ ay_ok ay_288 (by decide) o9 eV5 rfl ?_
    refine ax_mv 1 49 [some (.ref 222), some (ax_i x1), some (ax_i x2)] [.ref 222] rfl ?_
    refine ax_gR (v := .ref 288) (pc' := 52) ⟨_, rfl⟩ fl_12_206 ay_222 rfl rfl ?_
    refine ax_mv 1 53 [some (.ref 222), some (ax_i x1), some (ax_i x2)] [ax_i x1, .ref 288] rfl ?_
    obtain ⟨o10, h⟩ := h
    refine ax_ild (n := 9) (pc' := 54) ⟨_, rfl⟩ ay_288 (by decide) o10 rfl ?_
    refine ax_mv 1 55 [some (.ref 222), some (ax_i x1), some (ax_i x2)] [ax_i 1, ax_i (V5 288 x1)] rfl ?_
    refine ax_sub (pc' := 56) ⟨_, rfl⟩ rfl ?_
    obtain ⟨o11, h⟩ := h
    exact ax_iret ⟨_, rfl⟩ rfl rfl o11 hg5 h
theorem r_Model_least {d : Nat} {V : ax_V} {Φ : Int → ax_V → Prop} {Θ : ax_V → Prop} {x1 : Int} (hg : ax_g V) (hx1 : ax_rg x1) (h : ((x1 ≤ 1000000 → Φ x1 V) ∧ (1000000 < x1 → Φ 1000000 V))) : ax_I ay_lay (d + 1) q_Model_least [.ref 222, ax_i x1] V Φ Θ := by
  refine ax_T.of (M := m_Model_least) rfl (Nat.le_of_ble_eq_true rfl) ?_
  refine ax_mv 0 0 [some (.ref 222), some (ax_i x1)] [] rfl ?_
  refine ax_mv 1 1 [some (.ref 222), some (ax_i x1)] [ax_i x1] rfl ?_
  refine ax_ldcw (pc' := 4) (n := 1000000) ⟨_, rfl⟩ rfl (by decide) rfl ?_
  refine ax_if2 (p1 := 13) (p2 := 7) ⟨_, rfl⟩ (by decide) rfl hx1 (by decide) (fun hc => ?_) (fun hc => ?_)
  · have h := h.1 hc
    refine ax_mv 1 14 [some (.ref 222), some (ax_i x1)] [ax_i x1] rfl ?_
    exact ax_iret ⟨_, rfl⟩ rfl rfl hx1 hg h
  · have h := h.2 (Int.not_le.mp hc)
    refine ax_ldcw (pc' := 10) (n := 1000000) ⟨_, rfl⟩ rfl (by decide) rfl ?_
    refine ax_mv 1 14 [some (.ref 222), some (ax_i x1)] [ax_i 1000000] rfl ?_
    exact ax_iret ⟨_, rfl⟩ rfl rfl (by decide) hg h
theorem r_Model_fault {d : Nat} {V : ax_V} {Φ : Int → ax_V → Prop} {Θ : ax_V → Prop} {x1 : Int} (hg : ax_g V) (hx1 : ax_rg x1) (h : (∀ V1, V1 = ax_u V 222 0 0 → ((x1 = 0 → Φ (V1 222 8) V1) ∧ (¬ x1 = 0 → ((x1 = 1 → Φ (V1 222 9) V1) ∧ (¬ x1 = 1 → Φ (-1) V1)))))) : ax_I ay_lay (d + 1) q_Model_fault [.ref 222, ax_i x1] V Φ Θ := by
  refine ax_T.of (M := m_Model_fault) rfl (Nat.le_of_ble_eq_true rfl) ?_
  refine ax_mv 0 0 [some (.ref 222), some (ax_i x1)] [] rfl ?_
  refine ax_mv 2 2 [some (.ref 222), some (ax_i x1)] [ax_i 0, .ref 222] rfl ?_
  obtain ⟨V1, eV1⟩ : ∃ W9 : ax_V, W9 = ax_u V 222 0 0 := ⟨_, rfl⟩
  have h := h V1 eV1
  have hg1 : ax_g V1 := eV1 ▸ ax_u_g hg (by decide)
  refine ax_pI (kI := 0) (pc' := 5) ⟨_, rfl⟩ fl_12_285 ay_ok ay_222 rfl rfl rfl rfl eV1 rfl ?_
  refine ax_mv 1 6 [some (.ref 222), some (ax_i x1)] [ax_i x1] rfl ?_
  refine ax_if (p1 := 16) (p2 := 9) ⟨_, rfl⟩ (by decide) rfl hx1 (fun hc => ?_) (fun hc => ?_)
  · have h := h.2 hc
    refine ax_mv 2 18 [some (.ref 222), some (ax_i x1)] [ax_i 1, ax_i x1] rfl ?_
    refine ax_if2 (p1 := 28) (p2 := 21) ⟨_, rfl⟩ (by decide) rfl hx1 (by decide) (fun hc => ?_) (fun hc => ?_)
    · have h := h.2 hc
      refine ax_mv 1 29 [some (.ref 222), some (ax_i x1)] [ax_i (-1)] rfl ?_
      exact ax_iret ⟨_, rfl⟩ rfl rfl (by decide) hg1 h
    · have h := h.1 (Classical.not_not.mp hc)
      refine ax_mv 1 22 [some (.ref 222), some (ax_i x1)] [.ref 222] rfl ?_
      refine ax_gI (kI := 9) (pc' := 25) ⟨_, rfl⟩ fl_12_607 ay_222 rfl rfl rfl ?_
      refine ax_mv 1 29 [some (.ref 222), some (ax_i x1)] [ax_i (V1 222 9)] rfl ?_
      exact ax_iret ⟨_, rfl⟩ rfl rfl (hg1 _ _) hg1 h
  · have h := h.1 (Classical.not_not.mp hc)
    refine ax_mv 1 10 [some (.ref 222), some (ax_i x1)] [.ref 222] rfl ?_
    refine ax_gI (kI := 8) (pc' := 13) ⟨_, rfl⟩ fl_12_604 ay_222 rfl rfl rfl ?_
    refine ax_mv 1 29 [some (.ref 222), some (ax_i x1)] [ax_i (V1 222 8)] rfl ?_
    exact ax_iret ⟨_, rfl⟩ rfl rfl (hg1 _ _) hg1 h
theorem r_Model_node {d : Nat} {V : ax_V} {Φ : Int → ax_V → Prop} {Θ : ax_V → Prop} {x1 : Int} {x2 : Int} (hg : ax_g V) (hx1 : ax_rg x1) (hx2 : ax_rg x2) (h : (∀ V1, V1 = ax_u V 222 0 0 → ax_I ay_lay d q_Model_isNode [.ref 222, ax_i x1] V1 (fun r2 V2 => ((r2 = 0 → Φ (-1) V2) ∧ (¬ r2 = 0 → ((x2 = 0 → (0 ≤ x1 ∧ x1 < 9) ∧ Φ (V2 226 x1) V2) ∧ (x2 = 1 → (0 ≤ x1 ∧ x1 < 9) ∧ Φ (V2 227 x1) V2) ∧ (x2 = 2 → (0 ≤ x1 ∧ x1 < 9) ∧ Φ (V2 228 x1) V2) ∧ (x2 = 3 → (0 ≤ x1 ∧ x1 < 9) ∧ Φ (V2 229 x1) V2) ∧ (x2 = 4 → (0 ≤ x1 ∧ x1 < 9) ∧ Φ (V2 289 x1) V2) ∧ (x2 = 5 → (0 ≤ x1 ∧ x1 < 9) ∧ Φ (V2 288 x1) V2) ∧ (¬ x2 = 0 → ¬ x2 = 1 → ¬ x2 = 2 → ¬ x2 = 3 → ¬ x2 = 4 → ¬ x2 = 5 → Φ (-1) V2))))) Θ)) : ax_I ay_lay (d + 1) q_Model_node [.ref 222, ax_i x1, ax_i x2] V Φ Θ := by
  refine ax_T.of (M := m_Model_node) rfl (Nat.le_of_ble_eq_true rfl) ?_
  refine ax_mv 0 0 [some (.ref 222), some (ax_i x1), some (ax_i x2)] [] rfl ?_
  refine ax_mv 2 2 [some (.ref 222), some (ax_i x1), some (ax_i x2)] [ax_i 0, .ref 222] rfl ?_
  obtain ⟨V1, eV1⟩ : ∃ W9 : ax_V, W9 = ax_u V 222 0 0 := ⟨_, rfl⟩
  have h := h V1 eV1
  have hg1 : ax_g V1 := eV1 ▸ ax_u_g hg (by decide)
  refine ax_pI (kI := 0) (pc' := 5) ⟨_, rfl⟩ fl_12_285 ay_ok ay_222 rfl rfl rfl rfl eV1 rfl ?_
  refine ax_mv 2 7 [some (.ref 222), some (ax_i x1), some (ax_i x2)] [ax_i x1, .ref 222] rfl ?_
  refine ax_callI (pc' := 10) ⟨_, rfl⟩ ml_12_619 (rest := []) rfl (fun ss hs => ⟨_, _, ay_222 ss hs⟩) (Nat.le_of_ble_eq_true rfl) rfl rfl h (fun r2 V2 hg2 hr2 h => ?_)
  refine ax_if (p1 := 15) (p2 := 13) ⟨_, rfl⟩ (by decide) rfl hr2 (fun hc => ?_) (fun hc => ?_)
  · have h := h.2 hc
    refine ax_mv 1 16 [some (.ref 222), some (ax_i x1), some (ax_i x2)] [ax_i x2] rfl ?_
    have t0 : (x2 = 0) → ax_R ay_lay ax_t d m_Model_node 56 [some (.ref 222), some (ax_i x1), some (ax_i x2)] [] V2 (ax_Ir Φ) Θ := fun hk => by
      have h := h.1 hk
      refine ax_mv 1 57 [some (.ref 222), some (ax_i x1), some (ax_i x2)] [.ref 222] rfl ?_
      refine ax_gR (v := .ref 226) (pc' := 60) ⟨_, rfl⟩ fl_12_19 ay_222 rfl rfl ?_
      refine ax_mv 1 61 [some (.ref 222), some (ax_i x1), some (ax_i x2)] [ax_i x1, .ref 226] rfl ?_
      obtain ⟨o1, h⟩ := h
      refine ax_ild (n := 9) (pc' := 62) ⟨_, rfl⟩ ay_226 (by decide) o1 rfl ?_
      exact ax_iret ⟨_, rfl⟩ rfl rfl (hg2 _ _) hg2 h
    have t1 : (x2 = 1) → ax_R ay_lay ax_t d m_Model_node 63 [some (.ref 222), some (ax_i x1), some (ax_i x2)] [] V2 (ax_Ir Φ) Θ := fun hk => by
      have h := h.2.1 hk
      refine ax_mv 1 64 [some (.ref 222), some (ax_i x1), some (ax_i x2)] [.ref 222] rfl ?_
      refine ax_gR (v := .ref 227) (pc' := 67) ⟨_, rfl⟩ fl_12_22 ay_222 rfl rfl ?_
      refine ax_mv 1 68 [some (.ref 222), some (ax_i x1), some (ax_i x2)] [ax_i x1, .ref 227] rfl ?_
      obtain ⟨o2, h⟩ := h
      refine ax_ild (n := 9) (pc' := 69) ⟨_, rfl⟩ ay_227 (by decide) o2 rfl ?_
      exact ax_iret ⟨_, rfl⟩ rfl rfl (hg2 _ _) hg2 h
    have t2 : (x2 = 2) → ax_R ay_lay ax_t d m_Model_node 70 [some (.ref 222), some (ax_i x1), some (ax_i x2)] [] V2 (ax_Ir Φ) Θ := fun hk => by
      have h := h.2.2.1 hk
      refine ax_mv 1 71 [some (.ref 222), some (ax_i x1), some (ax_i x2)] [.ref 222] rfl ?_
      refine ax_gR (v := .ref 228) (pc' := 74) ⟨_, rfl⟩ fl_12_25 ay_222 rfl rfl ?_
      refine ax_mv 1 75 [some (.ref 222), some (ax_i x1), some (ax_i x2)] [ax_i x1, .ref 228] rfl ?_
      obtain ⟨o3, h⟩ := h
      refine ax_ild (n := 9) (pc' := 76) ⟨_, rfl⟩ ay_228 (by decide) o3 rfl ?_
      exact ax_iret ⟨_, rfl⟩ rfl rfl (hg2 _ _) hg2 h
    have t3 : (x2 = 3) → ax_R ay_lay ax_t d m_Model_node 77 [some (.ref 222), some (ax_i x1), some (ax_i x2)] [] V2 (ax_Ir Φ) Θ := fun hk => by
      have h := h.2.2.2.1 hk
      refine ax_mv 1 78 [some (.ref 222), some (ax_i x1), some (ax_i x2)] [.ref 222] rfl ?_
      refine ax_gR (v := .ref 229) (pc' := 81) ⟨_, rfl⟩ fl_12_28 ay_222 rfl rfl ?_
      refine ax_mv 1 82 [some (.ref 222), some (ax_i x1), some (ax_i x2)] [ax_i x1, .ref 229] rfl ?_
      obtain ⟨o4, h⟩ := h
      refine ax_ild (n := 9) (pc' := 83) ⟨_, rfl⟩ ay_229 (by decide) o4 rfl ?_
      exact ax_iret ⟨_, rfl⟩ rfl rfl (hg2 _ _) hg2 h
    have t4 : (x2 = 4) → ax_R ay_lay ax_t d m_Model_node 84 [some (.ref 222), some (ax_i x1), some (ax_i x2)] [] V2 (ax_Ir Φ) Θ := fun hk => by
      have h := h.2.2.2.2.1 hk
      refine ax_mv 1 85 [some (.ref 222), some (ax_i x1), some (ax_i x2)] [.ref 222] rfl ?_
      refine ax_gR (v := .ref 289) (pc' := 88) ⟨_, rfl⟩ fl_12_209 ay_222 rfl rfl ?_
      refine ax_mv 1 89 [some (.ref 222), some (ax_i x1), some (ax_i x2)] [ax_i x1, .ref 289] rfl ?_
      obtain ⟨o5, h⟩ := h
      refine ax_ild (n := 9) (pc' := 90) ⟨_, rfl⟩ ay_289 (by decide) o5 rfl ?_
      exact ax_iret ⟨_, rfl⟩ rfl rfl (hg2 _ _) hg2 h
    have t5 : (x2 = 5) → ax_R ay_lay ax_t d m_Model_node 91 [some (.ref 222), some (ax_i x1), some (ax_i x2)] [] V2 (ax_Ir Φ) Θ := fun hk => by
      have h := h.2.2.2.2.2.1 hk
      refine ax_mv 1 92 [some (.ref 222), some (ax_i x1), some (ax_i x2)] [.ref 222] rfl ?_
      refine ax_gR (v := .ref 288) (pc' := 95) ⟨_, rfl⟩ fl_12_206 ay_222 rfl rfl ?_
      refine ax_mv 1 96 [some (.ref 222), some (ax_i x1), some (ax_i x2)] [ax_i x1, .ref 288] rfl ?_
      obtain ⟨o6, h⟩ := h
      refine ax_ild (n := 9) (pc' := 97) ⟨_, rfl⟩ ay_288 (by decide) o6 rfl ?_
      exact ax_iret ⟨_, rfl⟩ rfl rfl (hg2 _ _) hg2 h
    have tD : ¬ x2 = 0 → ¬ x2 = 1 → ¬ x2 = 2 → ¬ x2 = 3 → ¬ x2 = 4 → ¬ x2 = 5 → ax_R ay_lay ax_t d m_Model_node 98 [some (.ref 222), some (ax_i x1), some (ax_i x2)] [] V2 (ax_Ir Φ) Θ := fun n0 n1 n2 n3 n4 n5 => by
      have h := h.2.2.2.2.2.2 n0 n1 n2 n3 n4 n5
      refine ax_mv 1 99 [some (.ref 222), some (ax_i x1), some (ax_i x2)] [ax_i (-1)] rfl ?_
      exact ax_iret ⟨_, rfl⟩ rfl rfl (by decide) hg2 h
    by_cases e0 : x2 = 0
    · exact ax_tsC (off := 40) (p1 := 56) ⟨_, rfl⟩ hx2 (by omega) (by omega) (by rw [e0]; rfl) (by decide) (t0 (e0))
    by_cases e1 : x2 = 1
    · exact ax_tsC (off := 47) (p1 := 63) ⟨_, rfl⟩ hx2 (by omega) (by omega) (by rw [e1]; rfl) (by decide) (t1 (e1))
    by_cases e2 : x2 = 2
    · exact ax_tsC (off := 54) (p1 := 70) ⟨_, rfl⟩ hx2 (by omega) (by omega) (by rw [e2]; rfl) (by decide) (t2 (e2))
    by_cases e3 : x2 = 3
    · exact ax_tsC (off := 61) (p1 := 77) ⟨_, rfl⟩ hx2 (by omega) (by omega) (by rw [e3]; rfl) (by decide) (t3 (e3))
    by_cases e4 : x2 = 4
    · exact ax_tsC (off := 68) (p1 := 84) ⟨_, rfl⟩ hx2 (by omega) (by omega) (by rw [e4]; rfl) (by decide) (t4 (e4))
    by_cases e5 : x2 = 5
    · exact ax_tsC (off := 75) (p1 := 91) ⟨_, rfl⟩ hx2 (by omega) (by omega) (by rw [e5]; rfl) (by decide) (t5 (e5))
    exact ax_tsD (p1 := 98) ⟨_, rfl⟩ hx2 (by omega) (by decide) (tD e0 e1 e2 e3 e4 e5)
  · have h := h.1 (Classical.not_not.mp hc)
    refine ax_mv 1 14 [some (.ref 222), some (ax_i x1), some (ax_i x2)] [ax_i (-1)] rfl ?_
    exact ax_iret ⟨_, rfl⟩ rfl rfl (by decide) hg2 h
theorem r_Model_isNode {d : Nat} {V : ax_V} {Φ : Int → ax_V → Prop} {Θ : ax_V → Prop} {x1 : Int} (hg : ax_g V) (hx1 : ax_rg x1) (h : ((V 222 7 = 0 → Φ 0 V) ∧ (¬ V 222 7 = 0 → ax_I ay_lay d q_Model_within [ax_i x1, ax_i 0, ax_i ((V 222 86) - 1)] V (fun r1 V1 => ((r1 = 0 → Φ 0 V1) ∧ (¬ r1 = 0 → Φ 1 V1))) (fun _ => False)))) : ax_I ay_lay (d + 1) q_Model_isNode [.ref 222, ax_i x1] V Φ Θ := by
  refine ax_T.of (M := m_Model_isNode) rfl (Nat.le_of_ble_eq_true rfl) ?_
  refine ax_mv 0 0 [some (.ref 222), some (ax_i x1)] [] rfl ?_
  refine ax_mv 1 1 [some (.ref 222), some (ax_i x1)] [.ref 222] rfl ?_
  refine ax_gI (kI := 7) (pc' := 4) ⟨_, rfl⟩ fl_12_610 ay_222 rfl rfl rfl ?_
  refine ax_if (p1 := 25) (p2 := 7) ⟨_, rfl⟩ (by decide) rfl (hg _ _) (fun hc => ?_) (fun hc => ?_)
  · have h := h.1 hc
    refine ax_mv 1 26 [some (.ref 222), some (ax_i x1)] [ax_i 0] rfl ?_
    exact ax_iret ⟨_, rfl⟩ rfl (ax_nbv (by decide)) (by decide) hg h
  · have h := h.2 hc
    refine ax_mv 3 10 [some (.ref 222), some (ax_i x1)] [.ref 222, ax_i 0, ax_i x1] rfl ?_
    refine ax_gI (kI := 86) (pc' := 13) ⟨_, rfl⟩ fl_12_444 ay_222 rfl rfl rfl ?_
    refine ax_mv 1 14 [some (.ref 222), some (ax_i x1)] [ax_i 1, ax_i (V 222 86), ax_i 0, ax_i x1] rfl ?_
    refine ax_sub (pc' := 15) ⟨_, rfl⟩ rfl ?_
    refine ax_callS (pc' := 18) ⟨_, rfl⟩ ml_12_307 (Nat.le_of_ble_eq_true rfl) (Nat.le_of_ble_eq_true rfl) rfl h (fun r1 V1 hg1 hr1 h => ?_)
    refine ax_mv 0 18 [some (.ref 222), some (ax_i x1)] [ax_i r1] rfl ?_
    refine ax_if (p1 := 25) (p2 := 21) ⟨_, rfl⟩ (by decide) rfl hr1 (fun hc => ?_) (fun hc => ?_)
    · have h := h.1 hc
      refine ax_mv 1 26 [some (.ref 222), some (ax_i x1)] [ax_i 0] rfl ?_
      exact ax_iret ⟨_, rfl⟩ rfl (ax_nbv (by decide)) (by decide) hg1 h
    · have h := h.2 hc
      refine ax_mv 2 26 [some (.ref 222), some (ax_i x1)] [ax_i 1] rfl ?_
      exact ax_iret ⟨_, rfl⟩ rfl (ax_nbv (by decide)) (by decide) hg1 h
abbrev k_Model_make_62 (d : Nat) (x1 : Int) (x2 : Int) (x3 : Int) (V : ax_V) (Φ : Int → ax_V → Prop) (Θ : ax_V → Prop) : Prop := ax_R ay_lay ax_t d m_Model_make 62 [some (.ref 222), some (ax_i x1), some (ax_i x2), some (ax_i x3)] [] V (ax_Ir Φ) Θ
abbrev k_Model_make_88 (d : Nat) (x1 : Int) (x2 : Int) (x3 : Int) (V : ax_V) (Φ : Int → ax_V → Prop) (Θ : ax_V → Prop) : Prop := ax_R ay_lay ax_t d m_Model_make 88 [some (.ref 222), some (ax_i x1), some (ax_i x2), some (ax_i x3)] [] V (ax_Ir Φ) Θ
abbrev k_Model_make_130 (d : Nat) (y1 : Option Value) (x2 : Int) (x3 : Int) (V : ax_V) (Φ : Int → ax_V → Prop) (Θ : ax_V → Prop) : Prop := ax_R ay_lay ax_t d m_Model_make 130 [some (.ref 222), y1, some (ax_i x2), some (ax_i x3)] [] V (ax_Ir Φ) Θ
set_option maxRecDepth 20000 in
theorem r_Model_make_62 {d : Nat} {V : ax_V} {Φ : Int → ax_V → Prop} {Θ : ax_V → Prop} {x1 : Int} {x2 : Int} {x3 : Int} (hg : ax_g V) (hx1 : ax_rg x1) (hx2 : ax_rg x2) (hx3 : ax_rg x3) (h : ((26 ≤ x3 → k_Model_make_88 d x1 x2 0 V Φ Θ) ∧ (x3 < 26 → (0 ≤ (26 * x2) + x3 ∧ (26 * x2) + x3 < 208) ∧ (∀ V1, V1 = ax_u V 300 ((26 * x2) + x3) 0 → k_Model_make_62 d x1 x2 (x3 + 1) V1 Φ Θ)))) : k_Model_make_62 d x1 x2 x3 V Φ Θ := by
  refine ax_mv 1 63 [some (.ref 222), some (ax_i x1), some (ax_i x2), some (ax_i x3)] [ax_i x3] rfl ?_
  refine ax_bip (pc' := 65) ⟨_, rfl⟩ (by decide) rfl ?_
  refine ax_if2 (p1 := 86) (p2 := 68) ⟨_, rfl⟩ (by decide) rfl hx3 (by decide) (fun hc => ?_) (fun hc => ?_)
  · have h := h.1 hc
    refine ax_mv 1 87 [some (.ref 222), some (ax_i x1), some (ax_i x2), some (ax_i x3)] [ax_i 0] rfl ?_
    refine ax_sti (i := 0) (k := 3) (n := 1) (pc' := 88) (L' := [some (.ref 222), some (ax_i x1), some (ax_i x2), some (ax_i 0)]) ⟨_, rfl⟩ rfl rfl rfl (Nat.le_of_ble_eq_true rfl) rfl rfl ?_
    exact h
  · have h := h.2 (Int.not_le.mp hc)
    refine ax_mv 1 69 [some (.ref 222), some (ax_i x1), some (ax_i x2), some (ax_i x3)] [.ref 222] rfl ?_
    refine ax_gR (v := .ref 300) (pc' := 72) ⟨_, rfl⟩ fl_12_242 ay_222 rfl rfl ?_
    refine ax_bip (pc' := 74) ⟨_, rfl⟩ (by decide) rfl ?_
    refine ax_mv 1 75 [some (.ref 222), some (ax_i x1), some (ax_i x2), some (ax_i x3)] [ax_i x2, ax_i 26, .ref 300] rfl ?_
    refine ax_mul (pc' := 76) ⟨_, rfl⟩ rfl ?_
    refine ax_mv 1 77 [some (.ref 222), some (ax_i x1), some (ax_i x2), some (ax_i x3)] [ax_i x3, ax_i (26 * x2), .ref 300] rfl ?_
    refine ax_add (pc' := 78) ⟨_, rfl⟩ rfl ?_
    refine ax_mv 1 79 [some (.ref 222), some (ax_i x1), some (ax_i x2), some (ax_i x3)] [ax_i 0, ax_i ((26 * x2) + x3), .ref 300] rfl ?_
    obtain ⟨o1, h⟩ := h
    obtain ⟨V1, eV1⟩ : ∃ W9 : ax_V, W9 = ax_u V 300 ((26 * x2) + x3) 0 := ⟨_, rfl⟩
    have h := h V1 eV1
    have hg1 : ax_g V1 := eV1 ▸ ax_u_g hg (by decide)
    refine ax_ist (n := 208) (pc' := 80) ⟨_, rfl⟩ ay_ok ay_300 (by decide) o1 eV1 rfl ?_
    refine ax_inc (x := x3) (pc' := 83) (L' := [some (.ref 222), some (ax_i x1), some (ax_i x2), some (ax_i (x3 + 1))]) ⟨_, rfl⟩ rfl rfl rfl rfl ?_
    refine ax_mv 1 62 [some (.ref 222), some (ax_i x1), some (ax_i x2), some (ax_i (x3 + 1))] [] rfl ?_
    exact h
set_option maxRecDepth 20000 in
theorem r_Model_make_88 {d : Nat} {V : ax_V} {Φ : Int → ax_V → Prop} {Θ : ax_V → Prop} {x1 : Int} {x2 : Int} {x3 : Int} (hg : ax_g V) (hx1 : ax_rg x1) (hx2 : ax_rg x2) (hx3 : ax_rg x3) (h : (0 ≤ x1 ∧ x1 < 9) ∧ ((V 288 x1 ≤ x3 → k_Model_make_130 d (some (ax_i x1)) x2 0 V Φ Θ) ∧ (x3 < V 288 x1 → (0 ≤ (300 * x1) + x3 ∧ (300 * x1) + x3 < 2700) ∧ (0 ≤ (300 * x2) + x3 ∧ (300 * x2) + x3 < 2400) ∧ (∀ V1, V1 = ax_u V 301 ((300 * x2) + x3) (V 290 ((300 * x1) + x3)) → k_Model_make_88 d x1 x2 (x3 + 1) V1 Φ Θ)))) : k_Model_make_88 d x1 x2 x3 V Φ Θ := by
  refine ax_mv 2 90 [some (.ref 222), some (ax_i x1), some (ax_i x2), some (ax_i x3)] [.ref 222, ax_i x3] rfl ?_
  refine ax_gR (v := .ref 288) (pc' := 93) ⟨_, rfl⟩ fl_12_206 ay_222 rfl rfl ?_
  refine ax_mv 1 94 [some (.ref 222), some (ax_i x1), some (ax_i x2), some (ax_i x3)] [ax_i x1, .ref 288, ax_i x3] rfl ?_
  obtain ⟨o2, h⟩ := h
  refine ax_ild (n := 9) (pc' := 95) ⟨_, rfl⟩ ay_288 (by decide) o2 rfl ?_
  refine ax_if2 (p1 := 128) (p2 := 98) ⟨_, rfl⟩ (by decide) rfl hx3 (hg _ _) (fun hc => ?_) (fun hc => ?_)
  · have h := h.1 hc
    refine ax_mv 1 129 [some (.ref 222), some (ax_i x1), some (ax_i x2), some (ax_i x3)] [ax_i 0] rfl ?_
    refine ax_sti (i := 0) (k := 3) (n := 1) (pc' := 130) (L' := [some (.ref 222), some (ax_i x1), some (ax_i x2), some (ax_i 0)]) ⟨_, rfl⟩ rfl rfl rfl (Nat.le_of_ble_eq_true rfl) rfl rfl ?_
    exact h
  · have h := h.2 (Int.not_le.mp hc)
    refine ax_mv 1 99 [some (.ref 222), some (ax_i x1), some (ax_i x2), some (ax_i x3)] [.ref 222] rfl ?_
    refine ax_gR (v := .ref 301) (pc' := 102) ⟨_, rfl⟩ fl_12_245 ay_222 rfl rfl ?_
    refine ax_sip (pc' := 105) ⟨_, rfl⟩ (by decide) rfl ?_
    refine ax_mv 1 106 [some (.ref 222), some (ax_i x1), some (ax_i x2), some (ax_i x3)] [ax_i x2, ax_i 300, .ref 301] rfl ?_
    refine ax_mul (pc' := 107) ⟨_, rfl⟩ rfl ?_
    refine ax_mv 1 108 [some (.ref 222), some (ax_i x1), some (ax_i x2), some (ax_i x3)] [ax_i x3, ax_i (300 * x2), .ref 301] rfl ?_
    refine ax_add (pc' := 109) ⟨_, rfl⟩ rfl ?_
    refine ax_mv 1 110 [some (.ref 222), some (ax_i x1), some (ax_i x2), some (ax_i x3)] [.ref 222, ax_i ((300 * x2) + x3), .ref 301] rfl ?_
    refine ax_gR (v := .ref 290) (pc' := 113) ⟨_, rfl⟩ fl_12_212 ay_222 rfl rfl ?_
    refine ax_sip (pc' := 116) ⟨_, rfl⟩ (by decide) rfl ?_
    refine ax_mv 1 117 [some (.ref 222), some (ax_i x1), some (ax_i x2), some (ax_i x3)] [ax_i x1, ax_i 300, .ref 290, ax_i ((300 * x2) + x3), .ref 301] rfl ?_
    refine ax_mul (pc' := 118) ⟨_, rfl⟩ rfl ?_
    refine ax_mv 1 119 [some (.ref 222), some (ax_i x1), some (ax_i x2), some (ax_i x3)] [ax_i x3, ax_i (300 * x1), .ref 290, ax_i ((300 * x2) + x3), .ref 301] rfl ?_
    refine ax_add (pc' := 120) ⟨_, rfl⟩ rfl ?_
    obtain ⟨o3, h⟩ := h
    refine ax_ild (n := 2700) (pc' := 121) ⟨_, rfl⟩ ay_290 (by decide) o3 rfl ?_
    obtain ⟨o4, h⟩ := h
    obtain ⟨V1, eV1⟩ : ∃ W9 : ax_V, W9 = ax_u V 301 ((300 * x2) + x3) (V 290 ((300 * x1) + x3)) := ⟨_, rfl⟩
    have h := h V1 eV1
    have hg1 : ax_g V1 := eV1 ▸ ax_u_g hg (hg _ _)
    refine ax_ist (n := 2400) (pc' := 122) ⟨_, rfl⟩ ay_ok ay_301 (by decide) o4 eV1 rfl ?_
    refine ax_inc (x := x3) (pc' := 125) (L' := [some (.ref 222), some (ax_i x1), some (ax_i x2), some (ax_i (x3 + 1))]) ⟨_, rfl⟩ rfl rfl rfl rfl ?_
    refine ax_mv 1 88 [some (.ref 222), some (ax_i x1), some (ax_i x2), some (ax_i (x3 + 1))] [] rfl ?_
    exact h
set_option maxRecDepth 20000 in
theorem r_Model_make_130 {d : Nat} {V : ax_V} {Φ : Int → ax_V → Prop} {Θ : ax_V → Prop} {y1 : Option Value} {x2 : Int} {x3 : Int} (hg : ax_g V) (hy1 : ax_y y1) (hx2 : ax_rg x2) (hx3 : ax_rg x3) (h : ((4 ≤ x3 → Φ x2 V) ∧ (x3 < 4 → (0 ≤ (4 * x2) + x3 ∧ (4 * x2) + x3 < 32) ∧ (∀ V1, V1 = ax_u V 306 ((4 * x2) + x3) 0 → k_Model_make_130 d y1 x2 (x3 + 1) V1 Φ Θ)))) : k_Model_make_130 d y1 x2 x3 V Φ Θ := by
  refine ax_mv 2 132 [some (.ref 222), y1, some (ax_i x2), some (ax_i x3)] [ax_i 4, ax_i x3] rfl ?_
  refine ax_if2 (p1 := 152) (p2 := 135) ⟨_, rfl⟩ (by decide) rfl hx3 (by decide) (fun hc => ?_) (fun hc => ?_)
  · have h := h.1 hc
    refine ax_mv 1 153 [some (.ref 222), y1, some (ax_i x2), some (ax_i x3)] [ax_i x2] rfl ?_
    exact ax_iret ⟨_, rfl⟩ rfl rfl hx2 hg h
  · have h := h.2 (Int.not_le.mp hc)
    refine ax_mv 1 136 [some (.ref 222), y1, some (ax_i x2), some (ax_i x3)] [.ref 222] rfl ?_
    refine ax_gR (v := .ref 306) (pc' := 139) ⟨_, rfl⟩ fl_12_260 ay_222 rfl rfl ?_
    refine ax_mv 2 141 [some (.ref 222), y1, some (ax_i x2), some (ax_i x3)] [ax_i x2, ax_i 4, .ref 306] rfl ?_
    refine ax_mul (pc' := 142) ⟨_, rfl⟩ rfl ?_
    refine ax_mv 1 143 [some (.ref 222), y1, some (ax_i x2), some (ax_i x3)] [ax_i x3, ax_i (4 * x2), .ref 306] rfl ?_
    refine ax_add (pc' := 144) ⟨_, rfl⟩ rfl ?_
    refine ax_mv 1 145 [some (.ref 222), y1, some (ax_i x2), some (ax_i x3)] [ax_i 0, ax_i ((4 * x2) + x3), .ref 306] rfl ?_
    obtain ⟨o5, h⟩ := h
    obtain ⟨V1, eV1⟩ : ∃ W9 : ax_V, W9 = ax_u V 306 ((4 * x2) + x3) 0 := ⟨_, rfl⟩
    have h := h V1 eV1
    have hg1 : ax_g V1 := eV1 ▸ ax_u_g hg (by decide)
    refine ax_bst (n := 32) (pc' := 146) ⟨_, rfl⟩ ay_ok ay_306 (by decide) o5 (by decide) eV1 rfl ?_
    refine ax_inc (x := x3) (pc' := 149) (L' := [some (.ref 222), y1, some (ax_i x2), some (ax_i (x3 + 1))]) ⟨_, rfl⟩ rfl rfl rfl rfl ?_
    refine ax_mv 1 130 [some (.ref 222), y1, some (ax_i x2), some (ax_i (x3 + 1))] [] rfl ?_
    exact h
set_option maxRecDepth 20000 in
theorem r_Model_make {d : Nat} {V : ax_V} {Φ : Int → ax_V → Prop} {Θ : ax_V → Prop} {x1 : Int} (hg : ax_g V) (hx1 : ax_rg x1) (h : (∀ V1, V1 = ax_u V 222 0 0 → ax_I ay_lay d q_Model_canBe [.ref 222, ax_i x1] V1 (fun r2 V2 => ((r2 = 0 → Φ (-1) V2) ∧ (¬ r2 = 0 → ((V2 222 102 = 8 → Φ (-1) V2) ∧ (¬ V2 222 102 = 8 → ax_rg ((V2 222 102) + 1) ∧ (∀ V3, V3 = ax_u V2 222 102 ((V2 222 102) + 1) → (0 ≤ V2 222 102 ∧ V2 222 102 < 8) ∧ (∀ V4, V4 = ax_u V3 299 (V2 222 102) x1 → (0 ≤ V2 222 102 ∧ V2 222 102 < 8) ∧ (∀ V5, V5 = ax_u V4 302 (V2 222 102) 0 → (0 ≤ V2 222 102 ∧ V2 222 102 < 8) ∧ (∀ V6, V6 = ax_u V5 303 (V2 222 102) 0 → k_Model_make_62 d x1 (V2 222 102) 0 V6 Φ Θ))))))))) Θ)) : ax_I ay_lay (d + 1) q_Model_make [.ref 222, ax_i x1] V Φ Θ := by
  refine ax_T.of (M := m_Model_make) rfl (Nat.le_of_ble_eq_true rfl) ?_
  refine ax_mv 0 0 [some (.ref 222), some (ax_i x1), none, none] [] rfl ?_
  refine ax_mv 2 2 [some (.ref 222), some (ax_i x1), none, none] [ax_i 0, .ref 222] rfl ?_
  obtain ⟨V1, eV1⟩ : ∃ W9 : ax_V, W9 = ax_u V 222 0 0 := ⟨_, rfl⟩
  have h := h V1 eV1
  have hg1 : ax_g V1 := eV1 ▸ ax_u_g hg (by decide)
  refine ax_pI (kI := 0) (pc' := 5) ⟨_, rfl⟩ fl_12_285 ay_ok ay_222 rfl rfl rfl rfl eV1 rfl ?_
  refine ax_mv 2 7 [some (.ref 222), some (ax_i x1), none, none] [ax_i x1, .ref 222] rfl ?_
  refine ax_callI (pc' := 10) ⟨_, rfl⟩ ml_12_679 (rest := []) rfl (fun ss hs => ⟨_, _, ay_222 ss hs⟩) (Nat.le_of_ble_eq_true rfl) rfl rfl h (fun r2 V2 hg2 hr2 h => ?_)
  refine ax_if (p1 := 22) (p2 := 13) ⟨_, rfl⟩ (by decide) rfl hr2 (fun hc => ?_) (fun hc => ?_)
  · have h := h.1 hc
    refine ax_mv 1 23 [some (.ref 222), some (ax_i x1), none, none] [ax_i (-1)] rfl ?_
    exact ax_iret ⟨_, rfl⟩ rfl rfl (by decide) hg2 h
  · have h := h.2 hc
    refine ax_mv 1 14 [some (.ref 222), some (ax_i x1), none, none] [.ref 222] rfl ?_
    refine ax_gI (kI := 102) (pc' := 17) ⟨_, rfl⟩ fl_12_616 ay_222 rfl rfl rfl ?_
    refine ax_bip (pc' := 19) ⟨_, rfl⟩ (by decide) rfl ?_
    refine ax_if2 (p1 := 24) (p2 := 22) ⟨_, rfl⟩ (by decide) rfl (hg2 _ _) (by decide) (fun hc => ?_) (fun hc => ?_)
    · have h := h.2 hc
      refine ax_mv 1 25 [some (.ref 222), some (ax_i x1), none, none] [.ref 222] rfl ?_
      refine ax_gI (kI := 102) (pc' := 28) ⟨_, rfl⟩ fl_12_616 ay_222 rfl rfl rfl ?_
      refine ax_sti (i := 0) (k := 2) (n := 1) (pc' := 29) (L' := [some (.ref 222), some (ax_i x1), some (ax_i (V2 222 102)), none]) ⟨_, rfl⟩ rfl rfl rfl (Nat.le_of_ble_eq_true rfl) rfl rfl ?_
      refine ax_mv 2 31 [some (.ref 222), some (ax_i x1), some (ax_i (V2 222 102)), none] [.ref 222, .ref 222] rfl ?_
      refine ax_gI (kI := 102) (pc' := 34) ⟨_, rfl⟩ fl_12_616 ay_222 rfl rfl rfl ?_
      refine ax_mv 1 35 [some (.ref 222), some (ax_i x1), some (ax_i (V2 222 102)), none] [ax_i 1, ax_i (V2 222 102), .ref 222] rfl ?_
      refine ax_add (pc' := 36) ⟨_, rfl⟩ rfl ?_
      obtain ⟨o6, h⟩ := h
      obtain ⟨V3, eV3⟩ : ∃ W9 : ax_V, W9 = ax_u V2 222 102 ((V2 222 102) + 1) := ⟨_, rfl⟩
      have h := h V3 eV3
      have hg3 : ax_g V3 := eV3 ▸ ax_u_g hg2 o6
      refine ax_pI (kI := 102) (pc' := 39) ⟨_, rfl⟩ fl_12_616 ay_ok ay_222 rfl rfl rfl rfl eV3 rfl ?_
      refine ax_mv 1 40 [some (.ref 222), some (ax_i x1), some (ax_i (V2 222 102)), none] [.ref 222] rfl ?_
      refine ax_gR (v := .ref 299) (pc' := 43) ⟨_, rfl⟩ fl_12_239 ay_222 rfl rfl ?_
      refine ax_mv 2 45 [some (.ref 222), some (ax_i x1), some (ax_i (V2 222 102)), none] [ax_i x1, ax_i (V2 222 102), .ref 299] rfl ?_
      obtain ⟨o7, h⟩ := h
      obtain ⟨V4, eV4⟩ : ∃ W9 : ax_V, W9 = ax_u V3 299 (V2 222 102) x1 := ⟨_, rfl⟩
      have h := h V4 eV4
      have hg4 : ax_g V4 := eV4 ▸ ax_u_g hg3 hx1
      refine ax_ist (n := 8) (pc' := 46) ⟨_, rfl⟩ ay_ok ay_299 (by decide) o7 eV4 rfl ?_
      refine ax_mv 1 47 [some (.ref 222), some (ax_i x1), some (ax_i (V2 222 102)), none] [.ref 222] rfl ?_
      refine ax_gR (v := .ref 302) (pc' := 50) ⟨_, rfl⟩ fl_12_248 ay_222 rfl rfl ?_
      refine ax_mv 2 52 [some (.ref 222), some (ax_i x1), some (ax_i (V2 222 102)), none] [ax_i 0, ax_i (V2 222 102), .ref 302] rfl ?_
      obtain ⟨o8, h⟩ := h
      obtain ⟨V5, eV5⟩ : ∃ W9 : ax_V, W9 = ax_u V4 302 (V2 222 102) 0 := ⟨_, rfl⟩
      have h := h V5 eV5
      have hg5 : ax_g V5 := eV5 ▸ ax_u_g hg4 (by decide)
      refine ax_ist (n := 8) (pc' := 53) ⟨_, rfl⟩ ay_ok ay_302 (by decide) o8 eV5 rfl ?_
      refine ax_mv 1 54 [some (.ref 222), some (ax_i x1), some (ax_i (V2 222 102)), none] [.ref 222] rfl ?_
      refine ax_gR (v := .ref 303) (pc' := 57) ⟨_, rfl⟩ fl_12_251 ay_222 rfl rfl ?_
      refine ax_mv 2 59 [some (.ref 222), some (ax_i x1), some (ax_i (V2 222 102)), none] [ax_i 0, ax_i (V2 222 102), .ref 303] rfl ?_
      obtain ⟨o9, h⟩ := h
      obtain ⟨V6, eV6⟩ : ∃ W9 : ax_V, W9 = ax_u V5 303 (V2 222 102) 0 := ⟨_, rfl⟩
      have h := h V6 eV6
      have hg6 : ax_g V6 := eV6 ▸ ax_u_g hg5 (by decide)
      refine ax_bst (n := 8) (pc' := 60) ⟨_, rfl⟩ ay_ok ay_303 (by decide) o9 (by decide) eV6 rfl ?_
      refine ax_mv 1 61 [some (.ref 222), some (ax_i x1), some (ax_i (V2 222 102)), none] [ax_i 0] rfl ?_
      refine ax_sti (i := 0) (k := 3) (n := 1) (pc' := 62) (L' := [some (.ref 222), some (ax_i x1), some (ax_i (V2 222 102)), some (ax_i 0)]) ⟨_, rfl⟩ rfl rfl rfl (Nat.le_of_ble_eq_true rfl) rfl rfl ?_
      exact h
    · have h := h.1 (Classical.not_not.mp hc)
      refine ax_mv 1 23 [some (.ref 222), some (ax_i x1), none, none] [ax_i (-1)] rfl ?_
      exact ax_iret ⟨_, rfl⟩ rfl rfl (by decide) hg2 h
theorem r_Model_canBe {d : Nat} {V : ax_V} {Φ : Int → ax_V → Prop} {Θ : ax_V → Prop} {x1 : Int} (hg : ax_g V) (hx1 : ax_rg x1) (h : ax_I ay_lay d q_Model_isNode [.ref 222, ax_i x1] V (fun r1 V1 => ((r1 = 0 → Φ 0 V1) ∧ (¬ r1 = 0 → (0 ≤ x1 ∧ x1 < 9) ∧ ((60 < V1 289 x1 → Φ 0 V1) ∧ (V1 289 x1 ≤ 60 → (0 ≤ x1 ∧ x1 < 9) ∧ ((300 < V1 288 x1 → Φ 0 V1) ∧ (V1 288 x1 ≤ 300 → Φ 1 V1))))))) Θ) : ax_I ay_lay (d + 1) q_Model_canBe [.ref 222, ax_i x1] V Φ Θ := by
  refine ax_T.of (M := m_Model_canBe) rfl (Nat.le_of_ble_eq_true rfl) ?_
  refine ax_mv 0 0 [some (.ref 222), some (ax_i x1)] [] rfl ?_
  refine ax_mv 2 2 [some (.ref 222), some (ax_i x1)] [ax_i x1, .ref 222] rfl ?_
  refine ax_callI (pc' := 5) ⟨_, rfl⟩ ml_12_619 (rest := []) rfl (fun ss hs => ⟨_, _, ay_222 ss hs⟩) (Nat.le_of_ble_eq_true rfl) rfl rfl h (fun r1 V1 hg1 hr1 h => ?_)
  refine ax_if (p1 := 35) (p2 := 8) ⟨_, rfl⟩ (by decide) rfl hr1 (fun hc => ?_) (fun hc => ?_)
  · have h := h.1 hc
    refine ax_mv 1 36 [some (.ref 222), some (ax_i x1)] [ax_i 0] rfl ?_
    exact ax_iret ⟨_, rfl⟩ rfl (ax_nbv (by decide)) (by decide) hg1 h
  · have h := h.2 hc
    refine ax_mv 1 9 [some (.ref 222), some (ax_i x1)] [.ref 222] rfl ?_
    refine ax_gR (v := .ref 289) (pc' := 12) ⟨_, rfl⟩ fl_12_209 ay_222 rfl rfl ?_
    refine ax_mv 1 13 [some (.ref 222), some (ax_i x1)] [ax_i x1, .ref 289] rfl ?_
    obtain ⟨o1, h⟩ := h
    refine ax_ild (n := 9) (pc' := 14) ⟨_, rfl⟩ ay_289 (by decide) o1 rfl ?_
    refine ax_bip (pc' := 16) ⟨_, rfl⟩ (by decide) rfl ?_
    refine ax_if2 (p1 := 35) (p2 := 19) ⟨_, rfl⟩ (by decide) rfl (hg1 _ _) (by decide) (fun hc => ?_) (fun hc => ?_)
    · have h := h.1 hc
      refine ax_mv 1 36 [some (.ref 222), some (ax_i x1)] [ax_i 0] rfl ?_
      exact ax_iret ⟨_, rfl⟩ rfl (ax_nbv (by decide)) (by decide) hg1 h
    · have h := h.2 (Int.not_lt.mp hc)
      refine ax_mv 1 20 [some (.ref 222), some (ax_i x1)] [.ref 222] rfl ?_
      refine ax_gR (v := .ref 288) (pc' := 23) ⟨_, rfl⟩ fl_12_206 ay_222 rfl rfl ?_
      refine ax_mv 1 24 [some (.ref 222), some (ax_i x1)] [ax_i x1, .ref 288] rfl ?_
      obtain ⟨o2, h⟩ := h
      refine ax_ild (n := 9) (pc' := 25) ⟨_, rfl⟩ ay_288 (by decide) o2 rfl ?_
      refine ax_sip (pc' := 28) ⟨_, rfl⟩ (by decide) rfl ?_
      refine ax_if2 (p1 := 35) (p2 := 31) ⟨_, rfl⟩ (by decide) rfl (hg1 _ _) (by decide) (fun hc => ?_) (fun hc => ?_)
      · have h := h.1 hc
        refine ax_mv 1 36 [some (.ref 222), some (ax_i x1)] [ax_i 0] rfl ?_
        exact ax_iret ⟨_, rfl⟩ rfl (ax_nbv (by decide)) (by decide) hg1 h
      · have h := h.2 (Int.not_lt.mp hc)
        refine ax_mv 2 36 [some (.ref 222), some (ax_i x1)] [ax_i 1] rfl ?_
        exact ax_iret ⟨_, rfl⟩ rfl (ax_nbv (by decide)) (by decide) hg1 h
set_option maxRecDepth 20000 in
theorem r_Model_put {d : Nat} {V : ax_V} {Φ : Int → ax_V → Prop} {Θ : ax_V → Prop} {x1 : Int} {x2 : Int} {x3 : Int} (hg : ax_g V) (hx1 : ax_rg x1) (hx2 : ax_rg x2) (hx3 : ax_rg x3) (h : (∀ V1, V1 = ax_u V 222 0 0 → ax_I ay_lay d q_Model_isInstance [.ref 222, ax_i x1] V1 (fun r2 V2 => ((r2 = 0 → Φ 0 V2) ∧ (¬ r2 = 0 → (0 ≤ x1 ∧ x1 < 8) ∧ (0 ≤ V2 299 x1 ∧ V2 299 x1 < 9) ∧ ax_I ay_lay d q_Model_within [ax_i x2, ax_i 0, ax_i ((V2 227 (V2 299 x1)) - 1)] V2 (fun r3 V3 => ((r3 = 0 → Φ 0 V3) ∧ (¬ r3 = 0 → (0 ≤ x1 ∧ x1 < 8) ∧ (0 ≤ (26 * (V3 299 x1)) + x2 ∧ (26 * (V3 299 x1)) + x2 < 240) ∧ (0 ≤ x1 ∧ x1 < 8) ∧ (0 ≤ (26 * (V3 299 x1)) + (V3 230 ((26 * (V3 299 x1)) + x2)) ∧ (26 * (V3 299 x1)) + (V3 230 ((26 * (V3 299 x1)) + x2)) < 240) ∧ ((V3 233 ((26 * (V3 299 x1)) + (V3 230 ((26 * (V3 299 x1)) + x2))) = 0 → (0 ≤ (26 * x1) + (V3 230 ((26 * (V3 299 x1)) + x2)) ∧ (26 * x1) + (V3 230 ((26 * (V3 299 x1)) + x2)) < 208) ∧ (∀ V6, V6 = ax_u V3 300 ((26 * x1) + (V3 230 ((26 * (V3 299 x1)) + x2))) x3 → Φ 1 V6)) ∧ (¬ V3 233 ((26 * (V3 299 x1)) + (V3 230 ((26 * (V3 299 x1)) + x2))) = 0 → ((x3 = 0 → (0 ≤ (26 * x1) + (V3 230 ((26 * (V3 299 x1)) + x2)) ∧ (26 * x1) + (V3 230 ((26 * (V3 299 x1)) + x2)) < 208) ∧ (∀ V4, V4 = ax_u V3 300 ((26 * x1) + (V3 230 ((26 * (V3 299 x1)) + x2))) 0 → Φ 1 V4)) ∧ (¬ x3 = 0 → (0 ≤ (26 * x1) + (V3 230 ((26 * (V3 299 x1)) + x2)) ∧ (26 * x1) + (V3 230 ((26 * (V3 299 x1)) + x2)) < 208) ∧ (∀ V5, V5 = ax_u V3 300 ((26 * x1) + (V3 230 ((26 * (V3 299 x1)) + x2))) 1 → Φ 1 V5)))))))) (fun _ => False)))) Θ)) : ax_I ay_lay (d + 1) q_Model_put [.ref 222, ax_i x1, ax_i x2, ax_i x3] V Φ Θ := by
  refine ax_T.of (M := m_Model_put) rfl (Nat.le_of_ble_eq_true rfl) ?_
  refine ax_mv 0 0 [some (.ref 222), some (ax_i x1), some (ax_i x2), some (ax_i x3), none] [] rfl ?_
  refine ax_mv 2 2 [some (.ref 222), some (ax_i x1), some (ax_i x2), some (ax_i x3), none] [ax_i 0, .ref 222] rfl ?_
  obtain ⟨V1, eV1⟩ : ∃ W9 : ax_V, W9 = ax_u V 222 0 0 := ⟨_, rfl⟩
  have h := h V1 eV1
  have hg1 : ax_g V1 := eV1 ▸ ax_u_g hg (by decide)
  refine ax_pI (kI := 0) (pc' := 5) ⟨_, rfl⟩ fl_12_285 ay_ok ay_222 rfl rfl rfl rfl eV1 rfl ?_
  refine ax_mv 2 7 [some (.ref 222), some (ax_i x1), some (ax_i x2), some (ax_i x3), none] [ax_i x1, .ref 222] rfl ?_
  refine ax_callI (pc' := 10) ⟨_, rfl⟩ ml_12_682 (rest := []) rfl (fun ss hs => ⟨_, _, ay_222 ss hs⟩) (Nat.le_of_ble_eq_true rfl) rfl rfl h (fun r2 V2 hg2 hr2 h => ?_)
  refine ax_if (p1 := 34) (p2 := 13) ⟨_, rfl⟩ (by decide) rfl hr2 (fun hc => ?_) (fun hc => ?_)
  · have h := h.1 hc
    refine ax_mv 1 35 [some (.ref 222), some (ax_i x1), some (ax_i x2), some (ax_i x3), none] [ax_i 0] rfl ?_
    exact ax_iret ⟨_, rfl⟩ rfl (ax_nbv (by decide)) (by decide) hg2 h
  · have h := h.2 hc
    refine ax_mv 3 16 [some (.ref 222), some (ax_i x1), some (ax_i x2), some (ax_i x3), none] [.ref 222, ax_i 0, ax_i x2] rfl ?_
    refine ax_gR (v := .ref 227) (pc' := 19) ⟨_, rfl⟩ fl_12_22 ay_222 rfl rfl ?_
    refine ax_mv 1 20 [some (.ref 222), some (ax_i x1), some (ax_i x2), some (ax_i x3), none] [.ref 222, .ref 227, ax_i 0, ax_i x2] rfl ?_
    refine ax_gR (v := .ref 299) (pc' := 23) ⟨_, rfl⟩ fl_12_239 ay_222 rfl rfl ?_
    refine ax_mv 1 24 [some (.ref 222), some (ax_i x1), some (ax_i x2), some (ax_i x3), none] [ax_i x1, .ref 299, .ref 227, ax_i 0, ax_i x2] rfl ?_
    obtain ⟨o1, h⟩ := h
    refine ax_ild (n := 8) (pc' := 25) ⟨_, rfl⟩ ay_299 (by decide) o1 rfl ?_
    obtain ⟨o2, h⟩ := h
    refine ax_ild (n := 9) (pc' := 26) ⟨_, rfl⟩ ay_227 (by decide) o2 rfl ?_
    refine ax_mv 1 27 [some (.ref 222), some (ax_i x1), some (ax_i x2), some (ax_i x3), none] [ax_i 1, ax_i (V2 227 (V2 299 x1)), ax_i 0, ax_i x2] rfl ?_
    refine ax_sub (pc' := 28) ⟨_, rfl⟩ rfl ?_
    refine ax_callS (pc' := 31) ⟨_, rfl⟩ ml_12_307 (Nat.le_of_ble_eq_true rfl) (Nat.le_of_ble_eq_true rfl) rfl h (fun r3 V3 hg3 hr3 h => ?_)
    refine ax_mv 0 31 [some (.ref 222), some (ax_i x1), some (ax_i x2), some (ax_i x3), none] [ax_i r3] rfl ?_
    refine ax_if (p1 := 36) (p2 := 34) ⟨_, rfl⟩ (by decide) rfl hr3 (fun hc => ?_) (fun hc => ?_)
    · have h := h.2 hc
      refine ax_mv 1 37 [some (.ref 222), some (ax_i x1), some (ax_i x2), some (ax_i x3), none] [.ref 222] rfl ?_
      refine ax_gR (v := .ref 230) (pc' := 40) ⟨_, rfl⟩ fl_12_31 ay_222 rfl rfl ?_
      refine ax_bip (pc' := 42) ⟨_, rfl⟩ (by decide) rfl ?_
      refine ax_mv 1 43 [some (.ref 222), some (ax_i x1), some (ax_i x2), some (ax_i x3), none] [.ref 222, ax_i 26, .ref 230] rfl ?_
      refine ax_gR (v := .ref 299) (pc' := 46) ⟨_, rfl⟩ fl_12_239 ay_222 rfl rfl ?_
      refine ax_mv 1 47 [some (.ref 222), some (ax_i x1), some (ax_i x2), some (ax_i x3), none] [ax_i x1, .ref 299, ax_i 26, .ref 230] rfl ?_
      obtain ⟨o3, h⟩ := h
      refine ax_ild (n := 8) (pc' := 48) ⟨_, rfl⟩ ay_299 (by decide) o3 rfl ?_
      refine ax_mul (pc' := 49) ⟨_, rfl⟩ rfl ?_
      refine ax_mv 1 50 [some (.ref 222), some (ax_i x1), some (ax_i x2), some (ax_i x3), none] [ax_i x2, ax_i (26 * (V3 299 x1)), .ref 230] rfl ?_
      refine ax_add (pc' := 51) ⟨_, rfl⟩ rfl ?_
      obtain ⟨o4, h⟩ := h
      refine ax_ild (n := 240) (pc' := 52) ⟨_, rfl⟩ ay_230 (by decide) o4 rfl ?_
      refine ax_sti (i := 0) (k := 4) (n := 2) (pc' := 54) (L' := [some (.ref 222), some (ax_i x1), some (ax_i x2), some (ax_i x3), some (ax_i (V3 230 ((26 * (V3 299 x1)) + x2)))]) ⟨_, rfl⟩ rfl rfl rfl (Nat.le_of_ble_eq_true rfl) rfl rfl ?_
      refine ax_mv 1 55 [some (.ref 222), some (ax_i x1), some (ax_i x2), some (ax_i x3), some (ax_i (V3 230 ((26 * (V3 299 x1)) + x2)))] [.ref 222] rfl ?_
      refine ax_gR (v := .ref 300) (pc' := 58) ⟨_, rfl⟩ fl_12_242 ay_222 rfl rfl ?_
      refine ax_bip (pc' := 60) ⟨_, rfl⟩ (by decide) rfl ?_
      refine ax_mv 1 61 [some (.ref 222), some (ax_i x1), some (ax_i x2), some (ax_i x3), some (ax_i (V3 230 ((26 * (V3 299 x1)) + x2)))] [ax_i x1, ax_i 26, .ref 300] rfl ?_
      refine ax_mul (pc' := 62) ⟨_, rfl⟩ rfl ?_
      refine ax_mv 1 64 [some (.ref 222), some (ax_i x1), some (ax_i x2), some (ax_i x3), some (ax_i (V3 230 ((26 * (V3 299 x1)) + x2)))] [ax_i (V3 230 ((26 * (V3 299 x1)) + x2)), ax_i (26 * x1), .ref 300] rfl ?_
      refine ax_add (pc' := 65) ⟨_, rfl⟩ rfl ?_
      refine ax_mv 1 66 [some (.ref 222), some (ax_i x1), some (ax_i x2), some (ax_i x3), some (ax_i (V3 230 ((26 * (V3 299 x1)) + x2)))] [.ref 222, ax_i ((26 * x1) + (V3 230 ((26 * (V3 299 x1)) + x2))), .ref 300] rfl ?_
      refine ax_gR (v := .ref 233) (pc' := 69) ⟨_, rfl⟩ fl_12_40 ay_222 rfl rfl ?_
      refine ax_bip (pc' := 71) ⟨_, rfl⟩ (by decide) rfl ?_
      refine ax_mv 1 72 [some (.ref 222), some (ax_i x1), some (ax_i x2), some (ax_i x3), some (ax_i (V3 230 ((26 * (V3 299 x1)) + x2)))] [.ref 222, ax_i 26, .ref 233, ax_i ((26 * x1) + (V3 230 ((26 * (V3 299 x1)) + x2))), .ref 300] rfl ?_
      refine ax_gR (v := .ref 299) (pc' := 75) ⟨_, rfl⟩ fl_12_239 ay_222 rfl rfl ?_
      refine ax_mv 1 76 [some (.ref 222), some (ax_i x1), some (ax_i x2), some (ax_i x3), some (ax_i (V3 230 ((26 * (V3 299 x1)) + x2)))] [ax_i x1, .ref 299, ax_i 26, .ref 233, ax_i ((26 * x1) + (V3 230 ((26 * (V3 299 x1)) + x2))), .ref 300] rfl ?_
      obtain ⟨o5, h⟩ := h
      refine ax_ild (n := 8) (pc' := 77) ⟨_, rfl⟩ ay_299 (by decide) o5 rfl ?_
      refine ax_mul (pc' := 78) ⟨_, rfl⟩ rfl ?_
      refine ax_mv 1 80 [some (.ref 222), some (ax_i x1), some (ax_i x2), some (ax_i x3), some (ax_i (V3 230 ((26 * (V3 299 x1)) + x2)))] [ax_i (V3 230 ((26 * (V3 299 x1)) + x2)), ax_i (26 * (V3 299 x1)), .ref 233, ax_i ((26 * x1) + (V3 230 ((26 * (V3 299 x1)) + x2))), .ref 300] rfl ?_
      refine ax_add (pc' := 81) ⟨_, rfl⟩ rfl ?_
      obtain ⟨o6, h⟩ := h
      refine ax_ild (n := 240) (pc' := 82) ⟨_, rfl⟩ ay_233 (by decide) o6 rfl ?_
      refine ax_if (p1 := 89) (p2 := 85) ⟨_, rfl⟩ (by decide) rfl (hg3 _ _) (fun hc => ?_) (fun hc => ?_)
      · have h := h.2 hc
        refine ax_mv 1 90 [some (.ref 222), some (ax_i x1), some (ax_i x2), some (ax_i x3), some (ax_i (V3 230 ((26 * (V3 299 x1)) + x2)))] [ax_i x3, ax_i ((26 * x1) + (V3 230 ((26 * (V3 299 x1)) + x2))), .ref 300] rfl ?_
        refine ax_if (p1 := 97) (p2 := 93) ⟨_, rfl⟩ (by decide) rfl hx3 (fun hc => ?_) (fun hc => ?_)
        · have h := h.1 hc
          refine ax_mv 1 98 [some (.ref 222), some (ax_i x1), some (ax_i x2), some (ax_i x3), some (ax_i (V3 230 ((26 * (V3 299 x1)) + x2)))] [ax_i 0, ax_i ((26 * x1) + (V3 230 ((26 * (V3 299 x1)) + x2))), .ref 300] rfl ?_
          obtain ⟨o7, h⟩ := h
          obtain ⟨V4, eV4⟩ : ∃ W9 : ax_V, W9 = ax_u V3 300 ((26 * x1) + (V3 230 ((26 * (V3 299 x1)) + x2))) 0 := ⟨_, rfl⟩
          have h := h V4 eV4
          have hg4 : ax_g V4 := eV4 ▸ ax_u_g hg3 (by decide)
          refine ax_ist (n := 208) (pc' := 99) ⟨_, rfl⟩ ay_ok ay_300 (by decide) o7 eV4 rfl ?_
          refine ax_mv 1 100 [some (.ref 222), some (ax_i x1), some (ax_i x2), some (ax_i x3), some (ax_i (V3 230 ((26 * (V3 299 x1)) + x2)))] [ax_i 1] rfl ?_
          exact ax_iret ⟨_, rfl⟩ rfl (ax_nbv (by decide)) (by decide) hg4 h
        · have h := h.2 hc
          refine ax_mv 2 98 [some (.ref 222), some (ax_i x1), some (ax_i x2), some (ax_i x3), some (ax_i (V3 230 ((26 * (V3 299 x1)) + x2)))] [ax_i 1, ax_i ((26 * x1) + (V3 230 ((26 * (V3 299 x1)) + x2))), .ref 300] rfl ?_
          obtain ⟨o8, h⟩ := h
          obtain ⟨V5, eV5⟩ : ∃ W9 : ax_V, W9 = ax_u V3 300 ((26 * x1) + (V3 230 ((26 * (V3 299 x1)) + x2))) 1 := ⟨_, rfl⟩
          have h := h V5 eV5
          have hg5 : ax_g V5 := eV5 ▸ ax_u_g hg3 (by decide)
          refine ax_ist (n := 208) (pc' := 99) ⟨_, rfl⟩ ay_ok ay_300 (by decide) o8 eV5 rfl ?_
          refine ax_mv 1 100 [some (.ref 222), some (ax_i x1), some (ax_i x2), some (ax_i x3), some (ax_i (V3 230 ((26 * (V3 299 x1)) + x2)))] [ax_i 1] rfl ?_
          exact ax_iret ⟨_, rfl⟩ rfl (ax_nbv (by decide)) (by decide) hg5 h
      · have h := h.1 (Classical.not_not.mp hc)
        refine ax_mv 2 98 [some (.ref 222), some (ax_i x1), some (ax_i x2), some (ax_i x3), some (ax_i (V3 230 ((26 * (V3 299 x1)) + x2)))] [ax_i x3, ax_i ((26 * x1) + (V3 230 ((26 * (V3 299 x1)) + x2))), .ref 300] rfl ?_
        obtain ⟨o9, h⟩ := h
        obtain ⟨V6, eV6⟩ : ∃ W9 : ax_V, W9 = ax_u V3 300 ((26 * x1) + (V3 230 ((26 * (V3 299 x1)) + x2))) x3 := ⟨_, rfl⟩
        have h := h V6 eV6
        have hg6 : ax_g V6 := eV6 ▸ ax_u_g hg3 hx3
        refine ax_ist (n := 208) (pc' := 99) ⟨_, rfl⟩ ay_ok ay_300 (by decide) o9 eV6 rfl ?_
        refine ax_mv 1 100 [some (.ref 222), some (ax_i x1), some (ax_i x2), some (ax_i x3), some (ax_i (V3 230 ((26 * (V3 299 x1)) + x2)))] [ax_i 1] rfl ?_
        exact ax_iret ⟨_, rfl⟩ rfl (ax_nbv (by decide)) (by decide) hg6 h
    · have h := h.1 (Classical.not_not.mp hc)
      refine ax_mv 1 35 [some (.ref 222), some (ax_i x1), some (ax_i x2), some (ax_i x3), none] [ax_i 0] rfl ?_
      exact ax_iret ⟨_, rfl⟩ rfl (ax_nbv (by decide)) (by decide) hg3 h
theorem r_Model_isInstance {d : Nat} {V : ax_V} {Φ : Int → ax_V → Prop} {Θ : ax_V → Prop} {x1 : Int} (hg : ax_g V) (hx1 : ax_rg x1) (h : ax_I ay_lay d q_Model_within [ax_i x1, ax_i 0, ax_i ((V 222 102) - 1)] V (fun r1 V1 => (r1 = 0 ∨ r1 = 1) ∧ Φ r1 V1) (fun _ => False)) : ax_I ay_lay (d + 1) q_Model_isInstance [.ref 222, ax_i x1] V Φ Θ := by
  refine ax_T.of (M := m_Model_isInstance) rfl (Nat.le_of_ble_eq_true rfl) ?_
  refine ax_mv 0 0 [some (.ref 222), some (ax_i x1)] [] rfl ?_
  refine ax_mv 3 3 [some (.ref 222), some (ax_i x1)] [.ref 222, ax_i 0, ax_i x1] rfl ?_
  refine ax_gI (kI := 102) (pc' := 6) ⟨_, rfl⟩ fl_12_616 ay_222 rfl rfl rfl ?_
  refine ax_mv 1 7 [some (.ref 222), some (ax_i x1)] [ax_i 1, ax_i (V 222 102), ax_i 0, ax_i x1] rfl ?_
  refine ax_sub (pc' := 8) ⟨_, rfl⟩ rfl ?_
  refine ax_callS (pc' := 11) ⟨_, rfl⟩ ml_12_307 (Nat.le_of_ble_eq_true rfl) (Nat.le_of_ble_eq_true rfl) rfl h (fun r1 V1 hg1 hr1 h => ?_)
  refine ax_mv 0 11 [some (.ref 222), some (ax_i x1)] [ax_i r1] rfl ?_
  obtain ⟨o1, h⟩ := h
  exact ax_iret ⟨_, rfl⟩ rfl (ax_nbv o1) hr1 hg1 h
abbrev k_Model_tick_24 (d : Nat) (x1 : Int) (x2 : Int) (x3 : Int) (V : ax_V) (Φ : Int → ax_V → Prop) (Θ : ax_V → Prop) : Prop := ax_R ay_lay ax_t d m_Model_tick 24 [some (.ref 222), some (ax_i x1), some (ax_i x2), some (ax_i x3)] [] V (ax_Ir Φ) Θ
abbrev k_Model_tick_72 (d : Nat) (x1 : Int) (x2 : Int) (x3 : Int) (V : ax_V) (Φ : Int → ax_V → Prop) (Θ : ax_V → Prop) : Prop := ax_R ay_lay ax_t d m_Model_tick 72 [some (.ref 222), some (ax_i x1), some (ax_i x2), some (ax_i x3)] [] V (ax_Ir Φ) Θ
abbrev k_Model_tick_130 (d : Nat) (x1 : Int) (x2 : Int) (x3 : Int) (V : ax_V) (Φ : Int → ax_V → Prop) (Θ : ax_V → Prop) : Prop := ax_R ay_lay ax_t d m_Model_tick 130 [some (.ref 222), some (ax_i x1), some (ax_i x2), some (ax_i x3)] [] V (ax_Ir Φ) Θ
abbrev k_Model_tick_166 (d : Nat) (x1 : Int) (y2 : Option Value) (x3 : Int) (V : ax_V) (Φ : Int → ax_V → Prop) (Θ : ax_V → Prop) : Prop := ax_R ay_lay ax_t d m_Model_tick 166 [some (.ref 222), some (ax_i x1), y2, some (ax_i x3)] [] V (ax_Ir Φ) Θ
set_option maxRecDepth 20000 in
theorem r_Model_tick_24 {d : Nat} {V : ax_V} {Φ : Int → ax_V → Prop} {Θ : ax_V → Prop} {x1 : Int} {x2 : Int} {x3 : Int} (hg : ax_g V) (hx1 : ax_rg x1) (hx2 : ax_rg x2) (hx3 : ax_rg x3) (h : (0 ≤ x2 ∧ x2 < 9) ∧ ((V 288 x2 ≤ x3 → k_Model_tick_72 d x1 x2 0 V Φ Θ) ∧ (x3 < V 288 x2 → (0 ≤ (300 * x1) + x3 ∧ (300 * x1) + x3 < 2400) ∧ (0 ≤ x3 ∧ x3 < 600) ∧ (∀ V1, V1 = ax_u V 291 x3 (V 301 ((300 * x1) + x3)) → (0 ≤ x3 ∧ x3 < 600) ∧ (0 ≤ x3 ∧ x3 < 600) ∧ (∀ V2, V2 = ax_u V1 292 x3 (V1 291 x3) → k_Model_tick_24 d x1 x2 (x3 + 1) V2 Φ Θ))))) : k_Model_tick_24 d x1 x2 x3 V Φ Θ := by
  refine ax_mv 2 26 [some (.ref 222), some (ax_i x1), some (ax_i x2), some (ax_i x3)] [.ref 222, ax_i x3] rfl ?_
  refine ax_gR (v := .ref 288) (pc' := 29) ⟨_, rfl⟩ fl_12_206 ay_222 rfl rfl ?_
  refine ax_mv 1 30 [some (.ref 222), some (ax_i x1), some (ax_i x2), some (ax_i x3)] [ax_i x2, .ref 288, ax_i x3] rfl ?_
  obtain ⟨o1, h⟩ := h
  refine ax_ild (n := 9) (pc' := 31) ⟨_, rfl⟩ ay_288 (by decide) o1 rfl ?_
  refine ax_if2 (p1 := 70) (p2 := 34) ⟨_, rfl⟩ (by decide) rfl hx3 (hg _ _) (fun hc => ?_) (fun hc => ?_)
  · have h := h.1 hc
    refine ax_mv 1 71 [some (.ref 222), some (ax_i x1), some (ax_i x2), some (ax_i x3)] [ax_i 0] rfl ?_
    refine ax_sti (i := 0) (k := 3) (n := 1) (pc' := 72) (L' := [some (.ref 222), some (ax_i x1), some (ax_i x2), some (ax_i 0)]) ⟨_, rfl⟩ rfl rfl rfl (Nat.le_of_ble_eq_true rfl) rfl rfl ?_
    exact h
  · have h := h.2 (Int.not_le.mp hc)
    refine ax_mv 1 35 [some (.ref 222), some (ax_i x1), some (ax_i x2), some (ax_i x3)] [.ref 222] rfl ?_
    refine ax_gR (v := .ref 291) (pc' := 38) ⟨_, rfl⟩ fl_12_215 ay_222 rfl rfl ?_
    refine ax_mv 2 40 [some (.ref 222), some (ax_i x1), some (ax_i x2), some (ax_i x3)] [.ref 222, ax_i x3, .ref 291] rfl ?_
    refine ax_gR (v := .ref 301) (pc' := 43) ⟨_, rfl⟩ fl_12_245 ay_222 rfl rfl ?_
    refine ax_sip (pc' := 46) ⟨_, rfl⟩ (by decide) rfl ?_
    refine ax_mv 1 47 [some (.ref 222), some (ax_i x1), some (ax_i x2), some (ax_i x3)] [ax_i x1, ax_i 300, .ref 301, ax_i x3, .ref 291] rfl ?_
    refine ax_mul (pc' := 48) ⟨_, rfl⟩ rfl ?_
    refine ax_mv 1 49 [some (.ref 222), some (ax_i x1), some (ax_i x2), some (ax_i x3)] [ax_i x3, ax_i (300 * x1), .ref 301, ax_i x3, .ref 291] rfl ?_
    refine ax_add (pc' := 50) ⟨_, rfl⟩ rfl ?_
    obtain ⟨o2, h⟩ := h
    refine ax_ild (n := 2400) (pc' := 51) ⟨_, rfl⟩ ay_301 (by decide) o2 rfl ?_
    obtain ⟨o3, h⟩ := h
    obtain ⟨V1, eV1⟩ : ∃ W9 : ax_V, W9 = ax_u V 291 x3 (V 301 ((300 * x1) + x3)) := ⟨_, rfl⟩
    have h := h V1 eV1
    have hg1 : ax_g V1 := eV1 ▸ ax_u_g hg (hg _ _)
    refine ax_ist (n := 600) (pc' := 52) ⟨_, rfl⟩ ay_ok ay_291 (by decide) o3 eV1 rfl ?_
    refine ax_mv 1 53 [some (.ref 222), some (ax_i x1), some (ax_i x2), some (ax_i x3)] [.ref 222] rfl ?_
    refine ax_gR (v := .ref 292) (pc' := 56) ⟨_, rfl⟩ fl_12_218 ay_222 rfl rfl ?_
    refine ax_mv 2 58 [some (.ref 222), some (ax_i x1), some (ax_i x2), some (ax_i x3)] [.ref 222, ax_i x3, .ref 292] rfl ?_
    refine ax_gR (v := .ref 291) (pc' := 61) ⟨_, rfl⟩ fl_12_215 ay_222 rfl rfl ?_
    refine ax_mv 1 62 [some (.ref 222), some (ax_i x1), some (ax_i x2), some (ax_i x3)] [ax_i x3, .ref 291, ax_i x3, .ref 292] rfl ?_
    obtain ⟨o4, h⟩ := h
    refine ax_ild (n := 600) (pc' := 63) ⟨_, rfl⟩ ay_291 (by decide) o4 rfl ?_
    obtain ⟨o5, h⟩ := h
    obtain ⟨V2, eV2⟩ : ∃ W9 : ax_V, W9 = ax_u V1 292 x3 (V1 291 x3) := ⟨_, rfl⟩
    have h := h V2 eV2
    have hg2 : ax_g V2 := eV2 ▸ ax_u_g hg1 (hg1 _ _)
    refine ax_ist (n := 600) (pc' := 64) ⟨_, rfl⟩ ay_ok ay_292 (by decide) o5 eV2 rfl ?_
    refine ax_inc (x := x3) (pc' := 67) (L' := [some (.ref 222), some (ax_i x1), some (ax_i x2), some (ax_i (x3 + 1))]) ⟨_, rfl⟩ rfl rfl rfl rfl ?_
    refine ax_mv 1 24 [some (.ref 222), some (ax_i x1), some (ax_i x2), some (ax_i (x3 + 1))] [] rfl ?_
    exact h
set_option maxRecDepth 20000 in
theorem r_Model_tick_72 {d : Nat} {V : ax_V} {Φ : Int → ax_V → Prop} {Θ : ax_V → Prop} {x1 : Int} {x2 : Int} {x3 : Int} (hg : ax_g V) (hx1 : ax_rg x1) (hx2 : ax_rg x2) (hx3 : ax_rg x3) (h : ((26 ≤ x3 → (∀ V1, V1 = ax_u V 222 101 (-1) → ax_N ay_lay d q_Model_tickNode [.ref 222, ax_i 0, ax_i x2, ax_i 0] V1 (fun V2 => ((V2 222 101 = -1 → k_Model_tick_130 d x1 x2 0 V2 Φ Θ) ∧ (¬ V2 222 101 = -1 → ax_rg (1 + (V2 222 101)) ∧ Φ (1 + (V2 222 101)) V2))) Θ)) ∧ (x3 < 26 → (0 ≤ (26 * x1) + x3 ∧ (26 * x1) + x3 < 208) ∧ (0 ≤ x3 ∧ x3 < 240) ∧ (∀ V3, V3 = ax_u V 293 x3 (V 300 ((26 * x1) + x3)) → k_Model_tick_72 d x1 x2 (x3 + 1) V3 Φ Θ)))) : k_Model_tick_72 d x1 x2 x3 V Φ Θ := by
  refine ax_mv 1 73 [some (.ref 222), some (ax_i x1), some (ax_i x2), some (ax_i x3)] [ax_i x3] rfl ?_
  refine ax_bip (pc' := 75) ⟨_, rfl⟩ (by decide) rfl ?_
  refine ax_if2 (p1 := 101) (p2 := 78) ⟨_, rfl⟩ (by decide) rfl hx3 (by decide) (fun hc => ?_) (fun hc => ?_)
  · have h := h.1 hc
    refine ax_mv 2 103 [some (.ref 222), some (ax_i x1), some (ax_i x2), some (ax_i x3)] [ax_i (-1), .ref 222] rfl ?_
    obtain ⟨V1, eV1⟩ : ∃ W9 : ax_V, W9 = ax_u V 222 101 (-1) := ⟨_, rfl⟩
    have h := h V1 eV1
    have hg1 : ax_g V1 := eV1 ▸ ax_u_g hg (by decide)
    refine ax_pI (kI := 101) (pc' := 106) ⟨_, rfl⟩ fl_12_622 ay_ok ay_222 rfl rfl rfl rfl eV1 rfl ?_
    refine ax_mv 4 110 [some (.ref 222), some (ax_i x1), some (ax_i x2), some (ax_i x3)] [ax_i 0, ax_i x2, ax_i 0, .ref 222] rfl ?_
    refine ax_callN (pc' := 113) ⟨_, rfl⟩ ml_12_642 (rest := []) rfl (fun ss hs => ⟨_, _, ay_222 ss hs⟩) (Nat.le_of_ble_eq_true rfl) rfl rfl h (fun V2 hg2 h => ?_)
    refine ax_mv 1 114 [some (.ref 222), some (ax_i x1), some (ax_i x2), some (ax_i x3)] [.ref 222] rfl ?_
    refine ax_gI (kI := 101) (pc' := 117) ⟨_, rfl⟩ fl_12_622 ay_222 rfl rfl rfl ?_
    refine ax_mv 1 118 [some (.ref 222), some (ax_i x1), some (ax_i x2), some (ax_i x3)] [ax_i (-1), ax_i (V2 222 101)] rfl ?_
    refine ax_if2 (p1 := 128) (p2 := 121) ⟨_, rfl⟩ (by decide) rfl (hg2 _ _) (by decide) (fun hc => ?_) (fun hc => ?_)
    · have h := h.1 hc
      refine ax_mv 1 129 [some (.ref 222), some (ax_i x1), some (ax_i x2), some (ax_i x3)] [ax_i 0] rfl ?_
      refine ax_sti (i := 0) (k := 3) (n := 1) (pc' := 130) (L' := [some (.ref 222), some (ax_i x1), some (ax_i x2), some (ax_i 0)]) ⟨_, rfl⟩ rfl rfl rfl (Nat.le_of_ble_eq_true rfl) rfl rfl ?_
      exact h
    · have h := h.2 hc
      refine ax_mv 2 123 [some (.ref 222), some (ax_i x1), some (ax_i x2), some (ax_i x3)] [.ref 222, ax_i 1] rfl ?_
      refine ax_gI (kI := 101) (pc' := 126) ⟨_, rfl⟩ fl_12_622 ay_222 rfl rfl rfl ?_
      refine ax_add (pc' := 127) ⟨_, rfl⟩ rfl ?_
      obtain ⟨o6, h⟩ := h
      exact ax_iret ⟨_, rfl⟩ rfl rfl o6 hg2 h
  · have h := h.2 (Int.not_le.mp hc)
    refine ax_mv 1 79 [some (.ref 222), some (ax_i x1), some (ax_i x2), some (ax_i x3)] [.ref 222] rfl ?_
    refine ax_gR (v := .ref 293) (pc' := 82) ⟨_, rfl⟩ fl_12_221 ay_222 rfl rfl ?_
    refine ax_mv 2 84 [some (.ref 222), some (ax_i x1), some (ax_i x2), some (ax_i x3)] [.ref 222, ax_i x3, .ref 293] rfl ?_
    refine ax_gR (v := .ref 300) (pc' := 87) ⟨_, rfl⟩ fl_12_242 ay_222 rfl rfl ?_
    refine ax_bip (pc' := 89) ⟨_, rfl⟩ (by decide) rfl ?_
    refine ax_mv 1 90 [some (.ref 222), some (ax_i x1), some (ax_i x2), some (ax_i x3)] [ax_i x1, ax_i 26, .ref 300, ax_i x3, .ref 293] rfl ?_
    refine ax_mul (pc' := 91) ⟨_, rfl⟩ rfl ?_
    refine ax_mv 1 92 [some (.ref 222), some (ax_i x1), some (ax_i x2), some (ax_i x3)] [ax_i x3, ax_i (26 * x1), .ref 300, ax_i x3, .ref 293] rfl ?_
    refine ax_add (pc' := 93) ⟨_, rfl⟩ rfl ?_
    obtain ⟨o7, h⟩ := h
    refine ax_ild (n := 208) (pc' := 94) ⟨_, rfl⟩ ay_300 (by decide) o7 rfl ?_
    obtain ⟨o8, h⟩ := h
    obtain ⟨V3, eV3⟩ : ∃ W9 : ax_V, W9 = ax_u V 293 x3 (V 300 ((26 * x1) + x3)) := ⟨_, rfl⟩
    have h := h V3 eV3
    have hg3 : ax_g V3 := eV3 ▸ ax_u_g hg (hg _ _)
    refine ax_ist (n := 240) (pc' := 95) ⟨_, rfl⟩ ay_ok ay_293 (by decide) o8 eV3 rfl ?_
    refine ax_inc (x := x3) (pc' := 98) (L' := [some (.ref 222), some (ax_i x1), some (ax_i x2), some (ax_i (x3 + 1))]) ⟨_, rfl⟩ rfl rfl rfl rfl ?_
    refine ax_mv 1 72 [some (.ref 222), some (ax_i x1), some (ax_i x2), some (ax_i (x3 + 1))] [] rfl ?_
    exact h
set_option maxRecDepth 20000 in
theorem r_Model_tick_130 {d : Nat} {V : ax_V} {Φ : Int → ax_V → Prop} {Θ : ax_V → Prop} {x1 : Int} {x2 : Int} {x3 : Int} (hg : ax_g V) (hx1 : ax_rg x1) (hx2 : ax_rg x2) (hx3 : ax_rg x3) (h : (0 ≤ x2 ∧ x2 < 9) ∧ ((V 288 x2 ≤ x3 → k_Model_tick_166 d x1 (some (ax_i x2)) 0 V Φ Θ) ∧ (x3 < V 288 x2 → (0 ≤ x3 ∧ x3 < 600) ∧ (0 ≤ (300 * x1) + x3 ∧ (300 * x1) + x3 < 2400) ∧ (∀ V1, V1 = ax_u V 301 ((300 * x1) + x3) (V 292 x3) → k_Model_tick_130 d x1 x2 (x3 + 1) V1 Φ Θ)))) : k_Model_tick_130 d x1 x2 x3 V Φ Θ := by
  refine ax_mv 2 132 [some (.ref 222), some (ax_i x1), some (ax_i x2), some (ax_i x3)] [.ref 222, ax_i x3] rfl ?_
  refine ax_gR (v := .ref 288) (pc' := 135) ⟨_, rfl⟩ fl_12_206 ay_222 rfl rfl ?_
  refine ax_mv 1 136 [some (.ref 222), some (ax_i x1), some (ax_i x2), some (ax_i x3)] [ax_i x2, .ref 288, ax_i x3] rfl ?_
  obtain ⟨o9, h⟩ := h
  refine ax_ild (n := 9) (pc' := 137) ⟨_, rfl⟩ ay_288 (by decide) o9 rfl ?_
  refine ax_if2 (p1 := 164) (p2 := 140) ⟨_, rfl⟩ (by decide) rfl hx3 (hg _ _) (fun hc => ?_) (fun hc => ?_)
  · have h := h.1 hc
    refine ax_mv 1 165 [some (.ref 222), some (ax_i x1), some (ax_i x2), some (ax_i x3)] [ax_i 0] rfl ?_
    refine ax_sti (i := 0) (k := 3) (n := 1) (pc' := 166) (L' := [some (.ref 222), some (ax_i x1), some (ax_i x2), some (ax_i 0)]) ⟨_, rfl⟩ rfl rfl rfl (Nat.le_of_ble_eq_true rfl) rfl rfl ?_
    exact h
  · have h := h.2 (Int.not_le.mp hc)
    refine ax_mv 1 141 [some (.ref 222), some (ax_i x1), some (ax_i x2), some (ax_i x3)] [.ref 222] rfl ?_
    refine ax_gR (v := .ref 301) (pc' := 144) ⟨_, rfl⟩ fl_12_245 ay_222 rfl rfl ?_
    refine ax_sip (pc' := 147) ⟨_, rfl⟩ (by decide) rfl ?_
    refine ax_mv 1 148 [some (.ref 222), some (ax_i x1), some (ax_i x2), some (ax_i x3)] [ax_i x1, ax_i 300, .ref 301] rfl ?_
    refine ax_mul (pc' := 149) ⟨_, rfl⟩ rfl ?_
    refine ax_mv 1 150 [some (.ref 222), some (ax_i x1), some (ax_i x2), some (ax_i x3)] [ax_i x3, ax_i (300 * x1), .ref 301] rfl ?_
    refine ax_add (pc' := 151) ⟨_, rfl⟩ rfl ?_
    refine ax_mv 1 152 [some (.ref 222), some (ax_i x1), some (ax_i x2), some (ax_i x3)] [.ref 222, ax_i ((300 * x1) + x3), .ref 301] rfl ?_
    refine ax_gR (v := .ref 292) (pc' := 155) ⟨_, rfl⟩ fl_12_218 ay_222 rfl rfl ?_
    refine ax_mv 1 156 [some (.ref 222), some (ax_i x1), some (ax_i x2), some (ax_i x3)] [ax_i x3, .ref 292, ax_i ((300 * x1) + x3), .ref 301] rfl ?_
    obtain ⟨o10, h⟩ := h
    refine ax_ild (n := 600) (pc' := 157) ⟨_, rfl⟩ ay_292 (by decide) o10 rfl ?_
    obtain ⟨o11, h⟩ := h
    obtain ⟨V1, eV1⟩ : ∃ W9 : ax_V, W9 = ax_u V 301 ((300 * x1) + x3) (V 292 x3) := ⟨_, rfl⟩
    have h := h V1 eV1
    have hg1 : ax_g V1 := eV1 ▸ ax_u_g hg (hg _ _)
    refine ax_ist (n := 2400) (pc' := 158) ⟨_, rfl⟩ ay_ok ay_301 (by decide) o11 eV1 rfl ?_
    refine ax_inc (x := x3) (pc' := 161) (L' := [some (.ref 222), some (ax_i x1), some (ax_i x2), some (ax_i (x3 + 1))]) ⟨_, rfl⟩ rfl rfl rfl rfl ?_
    refine ax_mv 1 130 [some (.ref 222), some (ax_i x1), some (ax_i x2), some (ax_i (x3 + 1))] [] rfl ?_
    exact h
set_option maxRecDepth 20000 in
theorem r_Model_tick_166 {d : Nat} {V : ax_V} {Φ : Int → ax_V → Prop} {Θ : ax_V → Prop} {x1 : Int} {y2 : Option Value} {x3 : Int} (hg : ax_g V) (hx1 : ax_rg x1) (hy2 : ax_y y2) (hx3 : ax_rg x3) (h : ((26 ≤ x3 → (0 ≤ x1 ∧ x1 < 8) ∧ (0 ≤ x1 ∧ x1 < 8) ∧ ax_rg ((V 302 x1) + 1) ∧ (∀ V1, V1 = ax_u V 302 x1 ((V 302 x1) + 1) → (0 ≤ x1 ∧ x1 < 8) ∧ (∀ V2, V2 = ax_u V1 303 x1 1 → Φ 0 V2))) ∧ (x3 < 26 → (0 ≤ x3 ∧ x3 < 240) ∧ (0 ≤ (26 * x1) + x3 ∧ (26 * x1) + x3 < 208) ∧ (V 294 x3 = 0 ∨ V 294 x3 = 1) ∧ (∀ V3, V3 = ax_u V 305 ((26 * x1) + x3) (V 294 x3) → (0 ≤ x3 ∧ x3 < 240) ∧ (0 ≤ (26 * x1) + x3 ∧ (26 * x1) + x3 < 208) ∧ (∀ V4, V4 = ax_u V3 304 ((26 * x1) + x3) (V3 293 x3) → k_Model_tick_166 d x1 y2 (x3 + 1) V4 Φ Θ))))) : k_Model_tick_166 d x1 y2 x3 V Φ Θ := by
  refine ax_mv 1 167 [some (.ref 222), some (ax_i x1), y2, some (ax_i x3)] [ax_i x3] rfl ?_
  refine ax_bip (pc' := 169) ⟨_, rfl⟩ (by decide) rfl ?_
  refine ax_if2 (p1 := 212) (p2 := 172) ⟨_, rfl⟩ (by decide) rfl hx3 (by decide) (fun hc => ?_) (fun hc => ?_)
  · have h := h.1 hc
    refine ax_mv 1 213 [some (.ref 222), some (ax_i x1), y2, some (ax_i x3)] [.ref 222] rfl ?_
    refine ax_gR (v := .ref 302) (pc' := 216) ⟨_, rfl⟩ fl_12_248 ay_222 rfl rfl ?_
    refine ax_mv 2 218 [some (.ref 222), some (ax_i x1), y2, some (ax_i x3)] [ax_i x1, .ref 302, ax_i x1, .ref 302] rfl ?_
    obtain ⟨o12, h⟩ := h
    refine ax_ild (n := 8) (pc' := 219) ⟨_, rfl⟩ ay_302 (by decide) o12 rfl ?_
    refine ax_mv 1 220 [some (.ref 222), some (ax_i x1), y2, some (ax_i x3)] [ax_i 1, ax_i (V 302 x1), ax_i x1, .ref 302] rfl ?_
    refine ax_add (pc' := 221) ⟨_, rfl⟩ rfl ?_
    obtain ⟨o13, o14, h⟩ := h
    obtain ⟨V1, eV1⟩ : ∃ W9 : ax_V, W9 = ax_u V 302 x1 ((V 302 x1) + 1) := ⟨_, rfl⟩
    have h := h V1 eV1
    have hg1 : ax_g V1 := eV1 ▸ ax_u_g hg o14
    refine ax_ist (n := 8) (pc' := 222) ⟨_, rfl⟩ ay_ok ay_302 (by decide) o13 eV1 rfl ?_
    refine ax_mv 1 223 [some (.ref 222), some (ax_i x1), y2, some (ax_i x3)] [.ref 222] rfl ?_
    refine ax_gR (v := .ref 303) (pc' := 226) ⟨_, rfl⟩ fl_12_251 ay_222 rfl rfl ?_
    refine ax_mv 2 228 [some (.ref 222), some (ax_i x1), y2, some (ax_i x3)] [ax_i 1, ax_i x1, .ref 303] rfl ?_
    obtain ⟨o15, h⟩ := h
    obtain ⟨V2, eV2⟩ : ∃ W9 : ax_V, W9 = ax_u V1 303 x1 1 := ⟨_, rfl⟩
    have h := h V2 eV2
    have hg2 : ax_g V2 := eV2 ▸ ax_u_g hg1 (by decide)
    refine ax_bst (n := 8) (pc' := 229) ⟨_, rfl⟩ ay_ok ay_303 (by decide) o15 (by decide) eV2 rfl ?_
    refine ax_mv 1 230 [some (.ref 222), some (ax_i x1), y2, some (ax_i x3)] [ax_i 0] rfl ?_
    exact ax_iret ⟨_, rfl⟩ rfl rfl (by decide) hg2 h
  · have h := h.2 (Int.not_le.mp hc)
    refine ax_mv 1 173 [some (.ref 222), some (ax_i x1), y2, some (ax_i x3)] [.ref 222] rfl ?_
    refine ax_gR (v := .ref 305) (pc' := 176) ⟨_, rfl⟩ fl_12_257 ay_222 rfl rfl ?_
    refine ax_bip (pc' := 178) ⟨_, rfl⟩ (by decide) rfl ?_
    refine ax_mv 1 179 [some (.ref 222), some (ax_i x1), y2, some (ax_i x3)] [ax_i x1, ax_i 26, .ref 305] rfl ?_
    refine ax_mul (pc' := 180) ⟨_, rfl⟩ rfl ?_
    refine ax_mv 1 181 [some (.ref 222), some (ax_i x1), y2, some (ax_i x3)] [ax_i x3, ax_i (26 * x1), .ref 305] rfl ?_
    refine ax_add (pc' := 182) ⟨_, rfl⟩ rfl ?_
    refine ax_mv 1 183 [some (.ref 222), some (ax_i x1), y2, some (ax_i x3)] [.ref 222, ax_i ((26 * x1) + x3), .ref 305] rfl ?_
    refine ax_gR (v := .ref 294) (pc' := 186) ⟨_, rfl⟩ fl_12_224 ay_222 rfl rfl ?_
    refine ax_mv 1 187 [some (.ref 222), some (ax_i x1), y2, some (ax_i x3)] [ax_i x3, .ref 294, ax_i ((26 * x1) + x3), .ref 305] rfl ?_
    obtain ⟨o16, h⟩ := h
    refine ax_bld (n := 240) (pc' := 188) ⟨_, rfl⟩ ay_294 (by decide) o16 rfl ?_
    obtain ⟨o17, o18, h⟩ := h
    obtain ⟨V3, eV3⟩ : ∃ W9 : ax_V, W9 = ax_u V 305 ((26 * x1) + x3) (V 294 x3) := ⟨_, rfl⟩
    have h := h V3 eV3
    have hg3 : ax_g V3 := eV3 ▸ ax_u_g hg (hg _ _)
    refine ax_bst (n := 208) (pc' := 189) ⟨_, rfl⟩ ay_ok ay_305 (by decide) o17 o18 eV3 rfl ?_
    refine ax_mv 1 190 [some (.ref 222), some (ax_i x1), y2, some (ax_i x3)] [.ref 222] rfl ?_
    refine ax_gR (v := .ref 304) (pc' := 193) ⟨_, rfl⟩ fl_12_254 ay_222 rfl rfl ?_
    refine ax_bip (pc' := 195) ⟨_, rfl⟩ (by decide) rfl ?_
    refine ax_mv 1 196 [some (.ref 222), some (ax_i x1), y2, some (ax_i x3)] [ax_i x1, ax_i 26, .ref 304] rfl ?_
    refine ax_mul (pc' := 197) ⟨_, rfl⟩ rfl ?_
    refine ax_mv 1 198 [some (.ref 222), some (ax_i x1), y2, some (ax_i x3)] [ax_i x3, ax_i (26 * x1), .ref 304] rfl ?_
    refine ax_add (pc' := 199) ⟨_, rfl⟩ rfl ?_
    refine ax_mv 1 200 [some (.ref 222), some (ax_i x1), y2, some (ax_i x3)] [.ref 222, ax_i ((26 * x1) + x3), .ref 304] rfl ?_
    refine ax_gR (v := .ref 293) (pc' := 203) ⟨_, rfl⟩ fl_12_221 ay_222 rfl rfl ?_
    refine ax_mv 1 204 [some (.ref 222), some (ax_i x1), y2, some (ax_i x3)] [ax_i x3, .ref 293, ax_i ((26 * x1) + x3), .ref 304] rfl ?_
    obtain ⟨o19, h⟩ := h
    refine ax_ild (n := 240) (pc' := 205) ⟨_, rfl⟩ ay_293 (by decide) o19 rfl ?_
    obtain ⟨o20, h⟩ := h
    obtain ⟨V4, eV4⟩ : ∃ W9 : ax_V, W9 = ax_u V3 304 ((26 * x1) + x3) (V3 293 x3) := ⟨_, rfl⟩
    have h := h V4 eV4
    have hg4 : ax_g V4 := eV4 ▸ ax_u_g hg3 (hg3 _ _)
    refine ax_ist (n := 208) (pc' := 206) ⟨_, rfl⟩ ay_ok ay_304 (by decide) o20 eV4 rfl ?_
    refine ax_inc (x := x3) (pc' := 209) (L' := [some (.ref 222), some (ax_i x1), y2, some (ax_i (x3 + 1))]) ⟨_, rfl⟩ rfl (ax_kill_y (k := 2) rfl hy2) rfl rfl ?_
    refine ax_mv 1 166 [some (.ref 222), some (ax_i x1), y2, some (ax_i (x3 + 1))] [] rfl ?_
    exact h
set_option maxRecDepth 20000 in
theorem r_Model_tick {d : Nat} {V : ax_V} {Φ : Int → ax_V → Prop} {Θ : ax_V → Prop} {x1 : Int} (hg : ax_g V) (hx1 : ax_rg x1) (h : (∀ V1, V1 = ax_u V 222 0 0 → ax_I ay_lay d q_Model_isInstance [.ref 222, ax_i x1] V1 (fun r2 V2 => ((r2 = 0 → Φ (-1) V2) ∧ (¬ r2 = 0 → (0 ≤ x1 ∧ x1 < 8) ∧ k_Model_tick_24 d x1 (V2 299 x1) 0 V2 Φ Θ))) Θ)) : ax_I ay_lay (d + 1) q_Model_tick [.ref 222, ax_i x1] V Φ Θ := by
  refine ax_T.of (M := m_Model_tick) rfl (Nat.le_of_ble_eq_true rfl) ?_
  refine ax_mv 0 0 [some (.ref 222), some (ax_i x1), none, none] [] rfl ?_
  refine ax_mv 2 2 [some (.ref 222), some (ax_i x1), none, none] [ax_i 0, .ref 222] rfl ?_
  obtain ⟨V1, eV1⟩ : ∃ W9 : ax_V, W9 = ax_u V 222 0 0 := ⟨_, rfl⟩
  have h := h V1 eV1
  have hg1 : ax_g V1 := eV1 ▸ ax_u_g hg (by decide)
  refine ax_pI (kI := 0) (pc' := 5) ⟨_, rfl⟩ fl_12_285 ay_ok ay_222 rfl rfl rfl rfl eV1 rfl ?_
  refine ax_mv 2 7 [some (.ref 222), some (ax_i x1), none, none] [ax_i x1, .ref 222] rfl ?_
  refine ax_callI (pc' := 10) ⟨_, rfl⟩ ml_12_682 (rest := []) rfl (fun ss hs => ⟨_, _, ay_222 ss hs⟩) (Nat.le_of_ble_eq_true rfl) rfl rfl h (fun r2 V2 hg2 hr2 h => ?_)
  refine ax_if (p1 := 15) (p2 := 13) ⟨_, rfl⟩ (by decide) rfl hr2 (fun hc => ?_) (fun hc => ?_)
  · have h := h.2 hc
    refine ax_mv 1 16 [some (.ref 222), some (ax_i x1), none, none] [.ref 222] rfl ?_
    refine ax_gR (v := .ref 299) (pc' := 19) ⟨_, rfl⟩ fl_12_239 ay_222 rfl rfl ?_
    refine ax_mv 1 20 [some (.ref 222), some (ax_i x1), none, none] [ax_i x1, .ref 299] rfl ?_
    obtain ⟨o21, h⟩ := h
    refine ax_ild (n := 8) (pc' := 21) ⟨_, rfl⟩ ay_299 (by decide) o21 rfl ?_
    refine ax_sti (i := 0) (k := 2) (n := 1) (pc' := 22) (L' := [some (.ref 222), some (ax_i x1), some (ax_i (V2 299 x1)), none]) ⟨_, rfl⟩ rfl rfl rfl (Nat.le_of_ble_eq_true rfl) rfl rfl ?_
    refine ax_mv 1 23 [some (.ref 222), some (ax_i x1), some (ax_i (V2 299 x1)), none] [ax_i 0] rfl ?_
    refine ax_sti (i := 0) (k := 3) (n := 1) (pc' := 24) (L' := [some (.ref 222), some (ax_i x1), some (ax_i (V2 299 x1)), some (ax_i 0)]) ⟨_, rfl⟩ rfl rfl rfl (Nat.le_of_ble_eq_true rfl) rfl rfl ?_
    exact h
  · have h := h.1 (Classical.not_not.mp hc)
    refine ax_mv 1 14 [some (.ref 222), some (ax_i x1), none, none] [ax_i (-1)] rfl ?_
    exact ax_iret ⟨_, rfl⟩ rfl rfl (by decide) hg2 h
