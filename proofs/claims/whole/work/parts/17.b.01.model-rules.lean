/-! RULES of the model's methods: a method each, and each loop of it. PRINTED by wip/gen/rules.py -/
abbrev k_Model_readFlows_2 (d : Nat) (x1 : Int) (x2 : Int) (y3 : Option Value) (y4 : Option Value) (y5 : Option Value) (y6 : Option Value) (y7 : Option Value) (V : ax_V) (Φ : Int → ax_V → Prop) (Θ : ax_V → Prop) : Prop := ax_R ay_lay ax_t d m_Model_readFlows 2 [some (.ref 222), some (ax_i x1), some (ax_i x2), y3, y4, y5, y6, y7] [] V (ax_Ir Φ) Θ
abbrev k_Model_readFlows_43 (d : Nat) (x1 : Int) (y2 : Option Value) (x3 : Int) (x4 : Int) (y5 : Option Value) (y6 : Option Value) (y7 : Option Value) (V : ax_V) (Φ : Int → ax_V → Prop) (Θ : ax_V → Prop) : Prop := ax_R ay_lay ax_t d m_Model_readFlows 43 [some (.ref 222), some (ax_i x1), y2, some (ax_i x3), some (ax_i x4), y5, y6, y7] [] V (ax_Ir Φ) Θ
abbrev k_Model_readFlows_96 (d : Nat) (x1 : Int) (y2 : Option Value) (x3 : Int) (x4 : Int) (x5 : Int) (x6 : Int) (y7 : Option Value) (s0 : Int) (V : ax_V) (Φ : Int → ax_V → Prop) (Θ : ax_V → Prop) : Prop := ax_R ay_lay ax_t d m_Model_readFlows 96 [some (.ref 222), some (ax_i x1), y2, some (ax_i x3), some (ax_i x4), some (ax_i x5), some (ax_i x6), y7] [ax_i s0] V (ax_Ir Φ) Θ
abbrev k_Model_readFlows_165 (d : Nat) (x1 : Int) (y2 : Option Value) (x3 : Int) (x4 : Int) (x5 : Int) (x6 : Int) (x7 : Int) (V : ax_V) (Φ : Int → ax_V → Prop) (Θ : ax_V → Prop) : Prop := ax_R ay_lay ax_t d m_Model_readFlows 165 [some (.ref 222), some (ax_i x1), y2, some (ax_i x3), some (ax_i x4), some (ax_i x5), some (ax_i x6), some (ax_i x7)] [] V (ax_Ir Φ) Θ
abbrev k_Model_readFlows_242 (d : Nat) (x1 : Int) (y2 : Option Value) (x3 : Int) (x4 : Int) (y5 : Option Value) (x6 : Int) (y7 : Option Value) (V : ax_V) (Φ : Int → ax_V → Prop) (Θ : ax_V → Prop) : Prop := ax_R ay_lay ax_t d m_Model_readFlows 242 [some (.ref 222), some (ax_i x1), y2, some (ax_i x3), some (ax_i x4), y5, some (ax_i x6), y7] [] V (ax_Ir Φ) Θ
abbrev k_Model_readFlows_373 (d : Nat) (x1 : Int) (y2 : Option Value) (y3 : Option Value) (y4 : Option Value) (y5 : Option Value) (y6 : Option Value) (y7 : Option Value) (V : ax_V) (Φ : Int → ax_V → Prop) (Θ : ax_V → Prop) : Prop := ax_R ay_lay ax_t d m_Model_readFlows 373 [some (.ref 222), some (ax_i x1), y2, y3, y4, y5, y6, y7] [] V (ax_Ir Φ) Θ
set_option maxRecDepth 20000 in
theorem r_Model_readFlows_2 {d : Nat} {V : ax_V} {Φ : Int → ax_V → Prop} {Θ : ax_V → Prop} {x1 : Int} {x2 : Int} {y3 : Option Value} {y4 : Option Value} {y5 : Option Value} {y6 : Option Value} {y7 : Option Value} (hg : ax_g V) (hx1 : ax_rg x1) (hx2 : ax_rg x2) (hy3 : ax_y y3) (hy4 : ax_y y4) (hy5 : ax_y y5) (hy6 : ax_y y6) (hy7 : ax_y y7) (h : ((x2 = 0 → Φ 1 V) ∧ (¬ x2 = 0 → ax_I ay_lay d q_Model_takeLetter [.ref 222] V (fun r1 V1 => ((r1 = -1 → Φ 0 V1) ∧ (¬ r1 = -1 → ax_I ay_lay d q_Model_see [.ref 222] V1 (fun r2 V2 => ((r2 = 105 → k_Model_readFlows_43 d x1 (some (ax_i x2)) (V 222 68) r1 y5 y6 y7 V2 Φ Θ) ∧ (¬ r2 = 105 → ax_I ay_lay d q_Model_see [.ref 222] V2 (fun r3 V3 => ((r3 = 98 → k_Model_readFlows_43 d x1 (some (ax_i x2)) (V 222 68) r1 y5 y6 y7 V3 Φ Θ) ∧ (¬ r3 = 98 → Φ 0 V3))) Θ))) Θ))) Θ))) : k_Model_readFlows_2 d x1 x2 y3 y4 y5 y6 y7 V Φ Θ := by
  refine ax_mv 1 3 [some (.ref 222), some (ax_i x1), some (ax_i x2), y3, y4, y5, y6, y7] [ax_i x2] rfl ?_
  refine ax_if (p1 := 409) (p2 := 6) ⟨_, rfl⟩ (by decide) rfl hx2 (fun hc => ?_) (fun hc => ?_)
  · have h := h.1 hc
    refine ax_mv 1 410 [some (.ref 222), some (ax_i x1), some (ax_i x2), y3, y4, y5, y6, y7] [ax_i 1] rfl ?_
    exact ax_iret ⟨_, rfl⟩ rfl (ax_nbv (by decide)) (by decide) hg h
  · have h := h.2 hc
    refine ax_mv 1 7 [some (.ref 222), some (ax_i x1), some (ax_i x2), y3, y4, y5, y6, y7] [.ref 222] rfl ?_
    refine ax_gI (kI := 68) (pc' := 10) ⟨_, rfl⟩ fl_12_294 ay_222 rfl rfl rfl ?_
    refine ax_sti (i := 0) (k := 3) (n := 1) (pc' := 11) (L' := [some (.ref 222), some (ax_i x1), some (ax_i x2), some (ax_i (V 222 68)), y4, y5, y6, y7]) ⟨_, rfl⟩ rfl rfl rfl (Nat.le_of_ble_eq_true rfl) rfl rfl ?_
    refine ax_mv 1 12 [some (.ref 222), some (ax_i x1), some (ax_i x2), some (ax_i (V 222 68)), y4, y5, y6, y7] [.ref 222] rfl ?_
    refine ax_callI (pc' := 15) ⟨_, rfl⟩ ml_12_393 (rest := []) rfl (fun ss hs => ⟨_, _, ay_222 ss hs⟩) (Nat.le_of_ble_eq_true rfl) rfl rfl h (fun r1 V1 hg1 hr1 h => ?_)
    refine ax_sti (i := 0) (k := 4) (n := 2) (pc' := 17) (L' := [some (.ref 222), some (ax_i x1), some (ax_i x2), some (ax_i (V 222 68)), some (ax_i r1), y5, y6, y7]) ⟨_, rfl⟩ rfl rfl rfl (Nat.le_of_ble_eq_true rfl) rfl rfl ?_
    refine ax_mv 2 20 [some (.ref 222), some (ax_i x1), some (ax_i x2), some (ax_i (V 222 68)), some (ax_i r1), y5, y6, y7] [ax_i (-1), ax_i r1] rfl ?_
    refine ax_if2 (p1 := 41) (p2 := 23) ⟨_, rfl⟩ (by decide) rfl hr1 (by decide) (fun hc => ?_) (fun hc => ?_)
    · have h := h.1 hc
      refine ax_mv 1 42 [some (.ref 222), some (ax_i x1), some (ax_i x2), some (ax_i (V 222 68)), some (ax_i r1), y5, y6, y7] [ax_i 0] rfl ?_
      exact ax_iret ⟨_, rfl⟩ rfl (ax_nbv (by decide)) (by decide) hg1 h
    · have h := h.2 hc
      refine ax_mv 1 24 [some (.ref 222), some (ax_i x1), some (ax_i x2), some (ax_i (V 222 68)), some (ax_i r1), y5, y6, y7] [.ref 222] rfl ?_
      refine ax_callI (pc' := 27) ⟨_, rfl⟩ ml_12_300 (rest := []) rfl (fun ss hs => ⟨_, _, ay_222 ss hs⟩) (Nat.le_of_ble_eq_true rfl) rfl rfl h (fun r2 V2 hg2 hr2 h => ?_)
      refine ax_bip (pc' := 29) ⟨_, rfl⟩ (by decide) rfl ?_
      refine ax_if2 (p1 := 43) (p2 := 32) ⟨_, rfl⟩ (by decide) rfl hr2 (by decide) (fun hc => ?_) (fun hc => ?_)
      · have h := h.1 hc
        exact h
      · have h := h.2 hc
        refine ax_mv 1 33 [some (.ref 222), some (ax_i x1), some (ax_i x2), some (ax_i (V 222 68)), some (ax_i r1), y5, y6, y7] [.ref 222] rfl ?_
        refine ax_callI (pc' := 36) ⟨_, rfl⟩ ml_12_300 (rest := []) rfl (fun ss hs => ⟨_, _, ay_222 ss hs⟩) (Nat.le_of_ble_eq_true rfl) rfl rfl h (fun r3 V3 hg3 hr3 h => ?_)
        refine ax_bip (pc' := 38) ⟨_, rfl⟩ (by decide) rfl ?_
        refine ax_if2 (p1 := 43) (p2 := 41) ⟨_, rfl⟩ (by decide) rfl hr3 (by decide) (fun hc => ?_) (fun hc => ?_)
        · have h := h.1 hc
          exact h
        · have h := h.2 hc
          refine ax_mv 1 42 [some (.ref 222), some (ax_i x1), some (ax_i x2), some (ax_i (V 222 68)), some (ax_i r1), y5, y6, y7] [ax_i 0] rfl ?_
          exact ax_iret ⟨_, rfl⟩ rfl (ax_nbv (by decide)) (by decide) hg3 h
set_option maxRecDepth 20000 in
theorem r_Model_readFlows_43 {d : Nat} {V : ax_V} {Φ : Int → ax_V → Prop} {Θ : ax_V → Prop} {x1 : Int} {y2 : Option Value} {x3 : Int} {x4 : Int} {y5 : Option Value} {y6 : Option Value} {y7 : Option Value} (hg : ax_g V) (hx1 : ax_rg x1) (hy2 : ax_y y2) (hx3 : ax_rg x3) (hx4 : ax_rg x4) (hy5 : ax_y y5) (hy6 : ax_y y6) (hy7 : ax_y y7) (h : (0 ≤ (26 * (V 222 10)) + x4 ∧ (26 * (V 222 10)) + x4 < 240) ∧ ((V 232 ((26 * (V 222 10)) + x4) = 0 → ax_I ay_lay d q_Model_see [.ref 222] V (fun r1 V1 => ((r1 = 98 → k_Model_readFlows_96 d x1 y2 x3 x4 ((26 * (V 222 10)) + x4) 0 y7 1 V1 Φ Θ) ∧ (¬ r1 = 98 → k_Model_readFlows_96 d x1 y2 x3 x4 ((26 * (V 222 10)) + x4) 0 y7 0 V1 Φ Θ))) Θ) ∧ (¬ V 232 ((26 * (V 222 10)) + x4) = 0 → ax_N ay_lay d q_Model_note [.ref 222, ax_i x3] V (fun V2 => ax_I ay_lay d q_Model_see [.ref 222] V2 (fun r3 V3 => ((r3 = 98 → k_Model_readFlows_96 d x1 y2 x3 x4 ((26 * (V 222 10)) + x4) 1 y7 1 V3 Φ Θ) ∧ (¬ r3 = 98 → k_Model_readFlows_96 d x1 y2 x3 x4 ((26 * (V 222 10)) + x4) 1 y7 0 V3 Φ Θ))) Θ) Θ))) : k_Model_readFlows_43 d x1 y2 x3 x4 y5 y6 y7 V Φ Θ := by
  refine ax_bip (pc' := 45) ⟨_, rfl⟩ (by decide) rfl ?_
  refine ax_mv 1 46 [some (.ref 222), some (ax_i x1), y2, some (ax_i x3), some (ax_i x4), y5, y6, y7] [.ref 222, ax_i 26] rfl ?_
  refine ax_gI (kI := 10) (pc' := 49) ⟨_, rfl⟩ fl_12_320 ay_222 rfl rfl rfl ?_
  refine ax_mul (pc' := 50) ⟨_, rfl⟩ rfl ?_
  refine ax_mv 1 52 [some (.ref 222), some (ax_i x1), y2, some (ax_i x3), some (ax_i x4), y5, y6, y7] [ax_i x4, ax_i (26 * (V 222 10))] rfl ?_
  refine ax_add (pc' := 53) ⟨_, rfl⟩ rfl ?_
  refine ax_sti (i := 0) (k := 5) (n := 2) (pc' := 55) (L' := [some (.ref 222), some (ax_i x1), y2, some (ax_i x3), some (ax_i x4), some (ax_i ((26 * (V 222 10)) + x4)), y6, y7]) ⟨_, rfl⟩ rfl rfl rfl (Nat.le_of_ble_eq_true rfl) rfl rfl ?_
  refine ax_mv 1 56 [some (.ref 222), some (ax_i x1), y2, some (ax_i x3), some (ax_i x4), some (ax_i ((26 * (V 222 10)) + x4)), y6, y7] [.ref 222] rfl ?_
  refine ax_gR (v := .ref 232) (pc' := 59) ⟨_, rfl⟩ fl_12_37 ay_222 rfl rfl ?_
  refine ax_mv 1 61 [some (.ref 222), some (ax_i x1), y2, some (ax_i x3), some (ax_i x4), some (ax_i ((26 * (V 222 10)) + x4)), y6, y7] [ax_i ((26 * (V 222 10)) + x4), .ref 232] rfl ?_
  obtain ⟨o1, h⟩ := h
  refine ax_ild (n := 240) (pc' := 62) ⟨_, rfl⟩ ay_232 (by decide) o1 rfl ?_
  refine ax_if (p1 := 69) (p2 := 65) ⟨_, rfl⟩ (by decide) rfl (hg _ _) (fun hc => ?_) (fun hc => ?_)
  · have h := h.1 hc
    refine ax_mv 1 70 [some (.ref 222), some (ax_i x1), y2, some (ax_i x3), some (ax_i x4), some (ax_i ((26 * (V 222 10)) + x4)), y6, y7] [ax_i 0] rfl ?_
    refine ax_sti (i := 0) (k := 6) (n := 2) (pc' := 72) (L' := [some (.ref 222), some (ax_i x1), y2, some (ax_i x3), some (ax_i x4), some (ax_i ((26 * (V 222 10)) + x4)), some (ax_i 0), y7]) ⟨_, rfl⟩ rfl rfl rfl (Nat.le_of_ble_eq_true rfl) rfl rfl ?_
    refine ax_mv 1 74 [some (.ref 222), some (ax_i x1), y2, some (ax_i x3), some (ax_i x4), some (ax_i ((26 * (V 222 10)) + x4)), some (ax_i 0), y7] [ax_i 0] rfl ?_
    refine ax_if (p1 := 82) (p2 := 77) ⟨_, rfl⟩ (by decide) rfl (by decide) (fun _ => ?_) (fun hc => absurd (by unfold ax_k0; decide) hc)
    refine ax_mv 1 83 [some (.ref 222), some (ax_i x1), y2, some (ax_i x3), some (ax_i x4), some (ax_i ((26 * (V 222 10)) + x4)), some (ax_i 0), y7] [.ref 222] rfl ?_
    refine ax_callI (pc' := 86) ⟨_, rfl⟩ ml_12_300 (rest := []) rfl (fun ss hs => ⟨_, _, ay_222 ss hs⟩) (Nat.le_of_ble_eq_true rfl) rfl rfl h (fun r1 V1 hg1 hr1 h => ?_)
    refine ax_bip (pc' := 88) ⟨_, rfl⟩ (by decide) rfl ?_
    refine ax_if2 (p1 := 95) (p2 := 91) ⟨_, rfl⟩ (by decide) rfl hr1 (by decide) (fun hc => ?_) (fun hc => ?_)
    · have h := h.2 hc
      refine ax_mv 1 96 [some (.ref 222), some (ax_i x1), y2, some (ax_i x3), some (ax_i x4), some (ax_i ((26 * (V 222 10)) + x4)), some (ax_i 0), y7] [ax_i 0] rfl ?_
      exact h
    · have h := h.1 (Classical.not_not.mp hc)
      refine ax_mv 2 96 [some (.ref 222), some (ax_i x1), y2, some (ax_i x3), some (ax_i x4), some (ax_i ((26 * (V 222 10)) + x4)), some (ax_i 0), y7] [ax_i 1] rfl ?_
      exact h
  · have h := h.2 hc
    refine ax_mv 2 70 [some (.ref 222), some (ax_i x1), y2, some (ax_i x3), some (ax_i x4), some (ax_i ((26 * (V 222 10)) + x4)), y6, y7] [ax_i 1] rfl ?_
    refine ax_sti (i := 0) (k := 6) (n := 2) (pc' := 72) (L' := [some (.ref 222), some (ax_i x1), y2, some (ax_i x3), some (ax_i x4), some (ax_i ((26 * (V 222 10)) + x4)), some (ax_i 1), y7]) ⟨_, rfl⟩ rfl rfl rfl (Nat.le_of_ble_eq_true rfl) rfl rfl ?_
    refine ax_mv 1 74 [some (.ref 222), some (ax_i x1), y2, some (ax_i x3), some (ax_i x4), some (ax_i ((26 * (V 222 10)) + x4)), some (ax_i 1), y7] [ax_i 1] rfl ?_
    refine ax_if (p1 := 82) (p2 := 77) ⟨_, rfl⟩ (by decide) rfl (by decide) (fun hc => absurd hc (by unfold ax_k0; decide)) (fun _ => ?_)
    refine ax_mv 2 79 [some (.ref 222), some (ax_i x1), y2, some (ax_i x3), some (ax_i x4), some (ax_i ((26 * (V 222 10)) + x4)), some (ax_i 1), y7] [ax_i x3, .ref 222] rfl ?_
    refine ax_callN (pc' := 82) ⟨_, rfl⟩ ml_12_433 (rest := []) rfl (fun ss hs => ⟨_, _, ay_222 ss hs⟩) (Nat.le_of_ble_eq_true rfl) rfl rfl h (fun V2 hg2 h => ?_)
    refine ax_mv 1 83 [some (.ref 222), some (ax_i x1), y2, some (ax_i x3), some (ax_i x4), some (ax_i ((26 * (V 222 10)) + x4)), some (ax_i 1), y7] [.ref 222] rfl ?_
    refine ax_callI (pc' := 86) ⟨_, rfl⟩ ml_12_300 (rest := []) rfl (fun ss hs => ⟨_, _, ay_222 ss hs⟩) (Nat.le_of_ble_eq_true rfl) rfl rfl h (fun r3 V3 hg3 hr3 h => ?_)
    refine ax_bip (pc' := 88) ⟨_, rfl⟩ (by decide) rfl ?_
    refine ax_if2 (p1 := 95) (p2 := 91) ⟨_, rfl⟩ (by decide) rfl hr3 (by decide) (fun hc => ?_) (fun hc => ?_)
    · have h := h.2 hc
      refine ax_mv 1 96 [some (.ref 222), some (ax_i x1), y2, some (ax_i x3), some (ax_i x4), some (ax_i ((26 * (V 222 10)) + x4)), some (ax_i 1), y7] [ax_i 0] rfl ?_
      exact h
    · have h := h.1 (Classical.not_not.mp hc)
      refine ax_mv 2 96 [some (.ref 222), some (ax_i x1), y2, some (ax_i x3), some (ax_i x4), some (ax_i ((26 * (V 222 10)) + x4)), some (ax_i 1), y7] [ax_i 1] rfl ?_
      exact h
set_option maxRecDepth 20000 in
theorem r_Model_readFlows_96 {d : Nat} {V : ax_V} {Φ : Int → ax_V → Prop} {Θ : ax_V → Prop} {x1 : Int} {y2 : Option Value} {x3 : Int} {x4 : Int} {x5 : Int} {x6 : Int} {y7 : Option Value} {s0 : Int} (hg : ax_g V) (hx1 : ax_rg x1) (hy2 : ax_y y2) (hx3 : ax_rg x3) (hx4 : ax_rg x4) (hx5 : ax_rg x5) (hx6 : ax_rg x6) (hy7 : ax_y y7) (hs0 : ax_rg s0) (h : ax_rg ((V 222 68) + 1) ∧ (∀ V1, V1 = ax_u V 222 68 ((V 222 68) + 1) → ((x6 = 0 → (0 ≤ x5 ∧ x5 < 240) ∧ (∀ V4, V4 = ax_u V1 232 x5 x1 → (0 ≤ x5 ∧ x5 < 240) ∧ (∀ V5, V5 = ax_u V4 233 x5 s0 → (0 ≤ x5 ∧ x5 < 240) ∧ (∀ V6, V6 = ax_u V5 234 x5 x3 → ((x1 = 3 → ax_I ay_lay d q_Model_see [.ref 222] V6 (fun r7 V7 => ((r7 = 64 → ax_I ay_lay d q_Model_readClock [.ref 222, ax_i x5, ax_i x6] V7 (fun r8 V8 => ((r8 = 0 → Φ 0 V8) ∧ (¬ r8 = 0 → k_Model_readFlows_165 d x1 y2 x3 x4 x5 x6 s0 V8 Φ Θ))) Θ) ∧ (¬ r7 = 64 → k_Model_readFlows_165 d x1 y2 x3 x4 x5 x6 s0 V7 Φ Θ))) Θ) ∧ (¬ x1 = 3 → k_Model_readFlows_165 d x1 y2 x3 x4 x5 x6 s0 V6 Φ Θ)))))) ∧ (¬ x6 = 0 → ((x1 = 3 → ax_I ay_lay d q_Model_see [.ref 222] V1 (fun r2 V2 => ((r2 = 64 → ax_I ay_lay d q_Model_readClock [.ref 222, ax_i x5, ax_i x6] V2 (fun r3 V3 => ((r3 = 0 → Φ 0 V3) ∧ (¬ r3 = 0 → k_Model_readFlows_165 d x1 y2 x3 x4 x5 x6 s0 V3 Φ Θ))) Θ) ∧ (¬ r2 = 64 → k_Model_readFlows_165 d x1 y2 x3 x4 x5 x6 s0 V2 Φ Θ))) Θ) ∧ (¬ x1 = 3 → k_Model_readFlows_165 d x1 y2 x3 x4 x5 x6 s0 V1 Φ Θ)))))) : k_Model_readFlows_96 d x1 y2 x3 x4 x5 x6 y7 s0 V Φ Θ := by
  refine ax_sti (i := 0) (k := 7) (n := 2) (pc' := 98) (L' := [some (.ref 222), some (ax_i x1), y2, some (ax_i x3), some (ax_i x4), some (ax_i x5), some (ax_i x6), some (ax_i s0)]) ⟨_, rfl⟩ rfl rfl rfl (Nat.le_of_ble_eq_true rfl) rfl rfl ?_
  refine ax_mv 2 100 [some (.ref 222), some (ax_i x1), y2, some (ax_i x3), some (ax_i x4), some (ax_i x5), some (ax_i x6), some (ax_i s0)] [.ref 222, .ref 222] rfl ?_
  refine ax_gI (kI := 68) (pc' := 103) ⟨_, rfl⟩ fl_12_294 ay_222 rfl rfl rfl ?_
  refine ax_mv 1 104 [some (.ref 222), some (ax_i x1), y2, some (ax_i x3), some (ax_i x4), some (ax_i x5), some (ax_i x6), some (ax_i s0)] [ax_i 1, ax_i (V 222 68), .ref 222] rfl ?_
  refine ax_add (pc' := 105) ⟨_, rfl⟩ rfl ?_
  obtain ⟨o2, h⟩ := h
  obtain ⟨V1, eV1⟩ : ∃ W9 : ax_V, W9 = ax_u V 222 68 ((V 222 68) + 1) := ⟨_, rfl⟩
  have h := h V1 eV1
  have hg1 : ax_g V1 := eV1 ▸ ax_u_g hg o2
  refine ax_pI (kI := 68) (pc' := 108) ⟨_, rfl⟩ fl_12_294 ay_ok ay_222 rfl rfl rfl rfl eV1 rfl ?_
  refine ax_mv 1 110 [some (.ref 222), some (ax_i x1), y2, some (ax_i x3), some (ax_i x4), some (ax_i x5), some (ax_i x6), some (ax_i s0)] [ax_i x6] rfl ?_
  refine ax_if (p1 := 138) (p2 := 113) ⟨_, rfl⟩ (by decide) rfl hx6 (fun hc => ?_) (fun hc => ?_)
  · have h := h.2 hc
    refine ax_mv 2 140 [some (.ref 222), some (ax_i x1), y2, some (ax_i x3), some (ax_i x4), some (ax_i x5), some (ax_i x6), some (ax_i s0)] [ax_i 3, ax_i x1] rfl ?_
    refine ax_if2 (p1 := 165) (p2 := 143) ⟨_, rfl⟩ (by decide) rfl hx1 (by decide) (fun hc => ?_) (fun hc => ?_)
    · have h := h.2 hc
      exact h
    · have h := h.1 (Classical.not_not.mp hc)
      refine ax_mv 1 144 [some (.ref 222), some (ax_i x1), y2, some (ax_i x3), some (ax_i x4), some (ax_i x5), some (ax_i x6), some (ax_i s0)] [.ref 222] rfl ?_
      refine ax_callI (pc' := 147) ⟨_, rfl⟩ ml_12_300 (rest := []) rfl (fun ss hs => ⟨_, _, ay_222 ss hs⟩) (Nat.le_of_ble_eq_true rfl) rfl rfl h (fun r2 V2 hg2 hr2 h => ?_)
      refine ax_bip (pc' := 149) ⟨_, rfl⟩ (by decide) rfl ?_
      refine ax_if2 (p1 := 165) (p2 := 152) ⟨_, rfl⟩ (by decide) rfl hr2 (by decide) (fun hc => ?_) (fun hc => ?_)
      · have h := h.2 hc
        exact h
      · have h := h.1 (Classical.not_not.mp hc)
        refine ax_mv 3 157 [some (.ref 222), some (ax_i x1), y2, some (ax_i x3), some (ax_i x4), some (ax_i x5), some (ax_i x6), some (ax_i s0)] [ax_i x6, ax_i x5, .ref 222] rfl ?_
        refine ax_callI (pc' := 160) ⟨_, rfl⟩ ml_12_437 (rest := []) rfl (fun ss hs => ⟨_, _, ay_222 ss hs⟩) (Nat.le_of_ble_eq_true rfl) rfl rfl h (fun r3 V3 hg3 hr3 h => ?_)
        refine ax_if (p1 := 165) (p2 := 163) ⟨_, rfl⟩ (by decide) rfl hr3 (fun hc => ?_) (fun hc => ?_)
        · have h := h.2 hc
          exact h
        · have h := h.1 (Classical.not_not.mp hc)
          refine ax_mv 1 164 [some (.ref 222), some (ax_i x1), y2, some (ax_i x3), some (ax_i x4), some (ax_i x5), some (ax_i x6), some (ax_i s0)] [ax_i 0] rfl ?_
          exact ax_iret ⟨_, rfl⟩ rfl (ax_nbv (by decide)) (by decide) hg3 h
  · have h := h.1 (Classical.not_not.mp hc)
    refine ax_mv 1 114 [some (.ref 222), some (ax_i x1), y2, some (ax_i x3), some (ax_i x4), some (ax_i x5), some (ax_i x6), some (ax_i s0)] [.ref 222] rfl ?_
    refine ax_gR (v := .ref 232) (pc' := 117) ⟨_, rfl⟩ fl_12_37 ay_222 rfl rfl ?_
    refine ax_mv 2 120 [some (.ref 222), some (ax_i x1), y2, some (ax_i x3), some (ax_i x4), some (ax_i x5), some (ax_i x6), some (ax_i s0)] [ax_i x1, ax_i x5, .ref 232] rfl ?_
    obtain ⟨o3, h⟩ := h
    obtain ⟨V4, eV4⟩ : ∃ W9 : ax_V, W9 = ax_u V1 232 x5 x1 := ⟨_, rfl⟩
    have h := h V4 eV4
    have hg4 : ax_g V4 := eV4 ▸ ax_u_g hg1 hx1
    refine ax_ist (n := 240) (pc' := 121) ⟨_, rfl⟩ ay_ok ay_232 (by decide) o3 eV4 rfl ?_
    refine ax_mv 1 122 [some (.ref 222), some (ax_i x1), y2, some (ax_i x3), some (ax_i x4), some (ax_i x5), some (ax_i x6), some (ax_i s0)] [.ref 222] rfl ?_
    refine ax_gR (v := .ref 233) (pc' := 125) ⟨_, rfl⟩ fl_12_40 ay_222 rfl rfl ?_
    refine ax_mv 2 129 [some (.ref 222), some (ax_i x1), y2, some (ax_i x3), some (ax_i x4), some (ax_i x5), some (ax_i x6), some (ax_i s0)] [ax_i s0, ax_i x5, .ref 233] rfl ?_
    obtain ⟨o4, h⟩ := h
    obtain ⟨V5, eV5⟩ : ∃ W9 : ax_V, W9 = ax_u V4 233 x5 s0 := ⟨_, rfl⟩
    have h := h V5 eV5
    have hg5 : ax_g V5 := eV5 ▸ ax_u_g hg4 hs0
    refine ax_ist (n := 240) (pc' := 130) ⟨_, rfl⟩ ay_ok ay_233 (by decide) o4 eV5 rfl ?_
    refine ax_mv 1 131 [some (.ref 222), some (ax_i x1), y2, some (ax_i x3), some (ax_i x4), some (ax_i x5), some (ax_i x6), some (ax_i s0)] [.ref 222] rfl ?_
    refine ax_gR (v := .ref 234) (pc' := 134) ⟨_, rfl⟩ fl_12_43 ay_222 rfl rfl ?_
    refine ax_mv 2 137 [some (.ref 222), some (ax_i x1), y2, some (ax_i x3), some (ax_i x4), some (ax_i x5), some (ax_i x6), some (ax_i s0)] [ax_i x3, ax_i x5, .ref 234] rfl ?_
    obtain ⟨o5, h⟩ := h
    obtain ⟨V6, eV6⟩ : ∃ W9 : ax_V, W9 = ax_u V5 234 x5 x3 := ⟨_, rfl⟩
    have h := h V6 eV6
    have hg6 : ax_g V6 := eV6 ▸ ax_u_g hg5 hx3
    refine ax_ist (n := 240) (pc' := 138) ⟨_, rfl⟩ ay_ok ay_234 (by decide) o5 eV6 rfl ?_
    refine ax_mv 2 140 [some (.ref 222), some (ax_i x1), y2, some (ax_i x3), some (ax_i x4), some (ax_i x5), some (ax_i x6), some (ax_i s0)] [ax_i 3, ax_i x1] rfl ?_
    refine ax_if2 (p1 := 165) (p2 := 143) ⟨_, rfl⟩ (by decide) rfl hx1 (by decide) (fun hc => ?_) (fun hc => ?_)
    · have h := h.2 hc
      exact h
    · have h := h.1 (Classical.not_not.mp hc)
      refine ax_mv 1 144 [some (.ref 222), some (ax_i x1), y2, some (ax_i x3), some (ax_i x4), some (ax_i x5), some (ax_i x6), some (ax_i s0)] [.ref 222] rfl ?_
      refine ax_callI (pc' := 147) ⟨_, rfl⟩ ml_12_300 (rest := []) rfl (fun ss hs => ⟨_, _, ay_222 ss hs⟩) (Nat.le_of_ble_eq_true rfl) rfl rfl h (fun r7 V7 hg7 hr7 h => ?_)
      refine ax_bip (pc' := 149) ⟨_, rfl⟩ (by decide) rfl ?_
      refine ax_if2 (p1 := 165) (p2 := 152) ⟨_, rfl⟩ (by decide) rfl hr7 (by decide) (fun hc => ?_) (fun hc => ?_)
      · have h := h.2 hc
        exact h
      · have h := h.1 (Classical.not_not.mp hc)
        refine ax_mv 3 157 [some (.ref 222), some (ax_i x1), y2, some (ax_i x3), some (ax_i x4), some (ax_i x5), some (ax_i x6), some (ax_i s0)] [ax_i x6, ax_i x5, .ref 222] rfl ?_
        refine ax_callI (pc' := 160) ⟨_, rfl⟩ ml_12_437 (rest := []) rfl (fun ss hs => ⟨_, _, ay_222 ss hs⟩) (Nat.le_of_ble_eq_true rfl) rfl rfl h (fun r8 V8 hg8 hr8 h => ?_)
        refine ax_if (p1 := 165) (p2 := 163) ⟨_, rfl⟩ (by decide) rfl hr8 (fun hc => ?_) (fun hc => ?_)
        · have h := h.2 hc
          exact h
        · have h := h.1 (Classical.not_not.mp hc)
          refine ax_mv 1 164 [some (.ref 222), some (ax_i x1), y2, some (ax_i x3), some (ax_i x4), some (ax_i x5), some (ax_i x6), some (ax_i s0)] [ax_i 0] rfl ?_
          exact ax_iret ⟨_, rfl⟩ rfl (ax_nbv (by decide)) (by decide) hg8 h
set_option maxRecDepth 20000 in
theorem r_Model_readFlows_165 {d : Nat} {V : ax_V} {Φ : Int → ax_V → Prop} {Θ : ax_V → Prop} {x1 : Int} {y2 : Option Value} {x3 : Int} {x4 : Int} {x5 : Int} {x6 : Int} {x7 : Int} (hg : ax_g V) (hx1 : ax_rg x1) (hy2 : ax_y y2) (hx3 : ax_rg x3) (hx4 : ax_rg x4) (hx5 : ax_rg x5) (hx6 : ax_rg x6) (hx7 : ax_rg x7) (h : ((x1 = 1 → k_Model_readFlows_242 d x1 y2 x3 x4 (some (ax_i x5)) x6 (some (ax_i x7)) V Φ Θ) ∧ (¬ x1 = 1 → ax_I ay_lay d q_Model_see [.ref 222] V (fun r1 V1 => ((r1 = 61 → ax_rg ((V1 222 68) + 1) ∧ (∀ V2, V2 = ax_u V1 222 68 ((V1 222 68) + 1) → ax_I ay_lay d q_Model_readNumber [.ref 222] V2 (fun r3 V3 => ((r3 = 0 → Φ 0 V3) ∧ (¬ r3 = 0 → ((x6 = 0 → (0 ≤ x5 ∧ x5 < 240) ∧ (∀ V4, V4 = ax_u V3 236 x5 1 → ((x7 = 0 → (0 ≤ x5 ∧ x5 < 240) ∧ (∀ V7, V7 = ax_u V4 237 x5 (V4 222 75) → k_Model_readFlows_242 d x1 y2 x3 x4 (some (ax_i x5)) x6 (some (ax_i x7)) V7 Φ Θ)) ∧ (¬ x7 = 0 → ((V4 222 75 = 0 → (0 ≤ x5 ∧ x5 < 240) ∧ (∀ V5, V5 = ax_u V4 237 x5 0 → k_Model_readFlows_242 d x1 y2 x3 x4 (some (ax_i x5)) x6 (some (ax_i x7)) V5 Φ Θ)) ∧ (¬ V4 222 75 = 0 → (0 ≤ x5 ∧ x5 < 240) ∧ (∀ V6, V6 = ax_u V4 237 x5 1 → k_Model_readFlows_242 d x1 y2 x3 x4 (some (ax_i x5)) x6 (some (ax_i x7)) V6 Φ Θ))))))) ∧ (¬ x6 = 0 → k_Model_readFlows_242 d x1 y2 x3 x4 (some (ax_i x5)) x6 (some (ax_i x7)) V3 Φ Θ))))) Θ)) ∧ (¬ r1 = 61 → k_Model_readFlows_242 d x1 y2 x3 x4 (some (ax_i x5)) x6 (some (ax_i x7)) V1 Φ Θ))) Θ))) : k_Model_readFlows_165 d x1 y2 x3 x4 x5 x6 x7 V Φ Θ := by
  refine ax_mv 2 167 [some (.ref 222), some (ax_i x1), y2, some (ax_i x3), some (ax_i x4), some (ax_i x5), some (ax_i x6), some (ax_i x7)] [ax_i 1, ax_i x1] rfl ?_
  refine ax_if2 (p1 := 242) (p2 := 170) ⟨_, rfl⟩ (by decide) rfl hx1 (by decide) (fun hc => ?_) (fun hc => ?_)
  · have h := h.1 hc
    exact h
  · have h := h.2 hc
    refine ax_mv 1 171 [some (.ref 222), some (ax_i x1), y2, some (ax_i x3), some (ax_i x4), some (ax_i x5), some (ax_i x6), some (ax_i x7)] [.ref 222] rfl ?_
    refine ax_callI (pc' := 174) ⟨_, rfl⟩ ml_12_300 (rest := []) rfl (fun ss hs => ⟨_, _, ay_222 ss hs⟩) (Nat.le_of_ble_eq_true rfl) rfl rfl h (fun r1 V1 hg1 hr1 h => ?_)
    refine ax_bip (pc' := 176) ⟨_, rfl⟩ (by decide) rfl ?_
    refine ax_if2 (p1 := 242) (p2 := 179) ⟨_, rfl⟩ (by decide) rfl hr1 (by decide) (fun hc => ?_) (fun hc => ?_)
    · have h := h.2 hc
      exact h
    · have h := h.1 (Classical.not_not.mp hc)
      refine ax_mv 2 181 [some (.ref 222), some (ax_i x1), y2, some (ax_i x3), some (ax_i x4), some (ax_i x5), some (ax_i x6), some (ax_i x7)] [.ref 222, .ref 222] rfl ?_
      refine ax_gI (kI := 68) (pc' := 184) ⟨_, rfl⟩ fl_12_294 ay_222 rfl rfl rfl ?_
      refine ax_mv 1 185 [some (.ref 222), some (ax_i x1), y2, some (ax_i x3), some (ax_i x4), some (ax_i x5), some (ax_i x6), some (ax_i x7)] [ax_i 1, ax_i (V1 222 68), .ref 222] rfl ?_
      refine ax_add (pc' := 186) ⟨_, rfl⟩ rfl ?_
      obtain ⟨o6, h⟩ := h
      obtain ⟨V2, eV2⟩ : ∃ W9 : ax_V, W9 = ax_u V1 222 68 ((V1 222 68) + 1) := ⟨_, rfl⟩
      have h := h V2 eV2
      have hg2 : ax_g V2 := eV2 ▸ ax_u_g hg1 o6
      refine ax_pI (kI := 68) (pc' := 189) ⟨_, rfl⟩ fl_12_294 ay_ok ay_222 rfl rfl rfl rfl eV2 rfl ?_
      refine ax_mv 1 190 [some (.ref 222), some (ax_i x1), y2, some (ax_i x3), some (ax_i x4), some (ax_i x5), some (ax_i x6), some (ax_i x7)] [.ref 222] rfl ?_
      refine ax_callI (pc' := 193) ⟨_, rfl⟩ ml_12_411 (rest := []) rfl (fun ss hs => ⟨_, _, ay_222 ss hs⟩) (Nat.le_of_ble_eq_true rfl) rfl rfl h (fun r3 V3 hg3 hr3 h => ?_)
      refine ax_if (p1 := 198) (p2 := 196) ⟨_, rfl⟩ (by decide) rfl hr3 (fun hc => ?_) (fun hc => ?_)
      · have h := h.2 hc
        refine ax_mv 1 200 [some (.ref 222), some (ax_i x1), y2, some (ax_i x3), some (ax_i x4), some (ax_i x5), some (ax_i x6), some (ax_i x7)] [ax_i x6] rfl ?_
        refine ax_if (p1 := 242) (p2 := 203) ⟨_, rfl⟩ (by decide) rfl hx6 (fun hc => ?_) (fun hc => ?_)
        · have h := h.2 hc
          exact h
        · have h := h.1 (Classical.not_not.mp hc)
          refine ax_mv 1 204 [some (.ref 222), some (ax_i x1), y2, some (ax_i x3), some (ax_i x4), some (ax_i x5), some (ax_i x6), some (ax_i x7)] [.ref 222] rfl ?_
          refine ax_gR (v := .ref 236) (pc' := 207) ⟨_, rfl⟩ fl_12_49 ay_222 rfl rfl ?_
          refine ax_mv 2 210 [some (.ref 222), some (ax_i x1), y2, some (ax_i x3), some (ax_i x4), some (ax_i x5), some (ax_i x6), some (ax_i x7)] [ax_i 1, ax_i x5, .ref 236] rfl ?_
          obtain ⟨o7, h⟩ := h
          obtain ⟨V4, eV4⟩ : ∃ W9 : ax_V, W9 = ax_u V3 236 x5 1 := ⟨_, rfl⟩
          have h := h V4 eV4
          have hg4 : ax_g V4 := eV4 ▸ ax_u_g hg3 (by decide)
          refine ax_bst (n := 240) (pc' := 211) ⟨_, rfl⟩ ay_ok ay_236 (by decide) o7 (by decide) eV4 rfl ?_
          refine ax_mv 1 212 [some (.ref 222), some (ax_i x1), y2, some (ax_i x3), some (ax_i x4), some (ax_i x5), some (ax_i x6), some (ax_i x7)] [.ref 222] rfl ?_
          refine ax_gR (v := .ref 237) (pc' := 215) ⟨_, rfl⟩ fl_12_53 ay_222 rfl rfl ?_
          refine ax_mv 2 219 [some (.ref 222), some (ax_i x1), y2, some (ax_i x3), some (ax_i x4), some (ax_i x5), some (ax_i x6), some (ax_i x7)] [ax_i x7, ax_i x5, .ref 237] rfl ?_
          refine ax_if (p1 := 229) (p2 := 222) ⟨_, rfl⟩ (by decide) rfl hx7 (fun hc => ?_) (fun hc => ?_)
          · have h := h.2 hc
            refine ax_mv 1 230 [some (.ref 222), some (ax_i x1), y2, some (ax_i x3), some (ax_i x4), some (ax_i x5), some (ax_i x6), some (ax_i x7)] [.ref 222, ax_i x5, .ref 237] rfl ?_
            refine ax_gI (kI := 75) (pc' := 233) ⟨_, rfl⟩ fl_12_333 ay_222 rfl rfl rfl ?_
            refine ax_if (p1 := 240) (p2 := 236) ⟨_, rfl⟩ (by decide) rfl (hg4 _ _) (fun hc => ?_) (fun hc => ?_)
            · have h := h.1 hc
              refine ax_mv 1 241 [some (.ref 222), some (ax_i x1), y2, some (ax_i x3), some (ax_i x4), some (ax_i x5), some (ax_i x6), some (ax_i x7)] [ax_i 0, ax_i x5, .ref 237] rfl ?_
              obtain ⟨o8, h⟩ := h
              obtain ⟨V5, eV5⟩ : ∃ W9 : ax_V, W9 = ax_u V4 237 x5 0 := ⟨_, rfl⟩
              have h := h V5 eV5
              have hg5 : ax_g V5 := eV5 ▸ ax_u_g hg4 (by decide)
              refine ax_ist (n := 240) (pc' := 242) ⟨_, rfl⟩ ay_ok ay_237 (by decide) o8 eV5 rfl ?_
              exact h
            · have h := h.2 hc
              refine ax_mv 2 241 [some (.ref 222), some (ax_i x1), y2, some (ax_i x3), some (ax_i x4), some (ax_i x5), some (ax_i x6), some (ax_i x7)] [ax_i 1, ax_i x5, .ref 237] rfl ?_
              obtain ⟨o9, h⟩ := h
              obtain ⟨V6, eV6⟩ : ∃ W9 : ax_V, W9 = ax_u V4 237 x5 1 := ⟨_, rfl⟩
              have h := h V6 eV6
              have hg6 : ax_g V6 := eV6 ▸ ax_u_g hg4 (by decide)
              refine ax_ist (n := 240) (pc' := 242) ⟨_, rfl⟩ ay_ok ay_237 (by decide) o9 eV6 rfl ?_
              exact h
          · have h := h.1 (Classical.not_not.mp hc)
            refine ax_mv 1 223 [some (.ref 222), some (ax_i x1), y2, some (ax_i x3), some (ax_i x4), some (ax_i x5), some (ax_i x6), some (ax_i x7)] [.ref 222, ax_i x5, .ref 237] rfl ?_
            refine ax_gI (kI := 75) (pc' := 226) ⟨_, rfl⟩ fl_12_333 ay_222 rfl rfl rfl ?_
            refine ax_mv 1 241 [some (.ref 222), some (ax_i x1), y2, some (ax_i x3), some (ax_i x4), some (ax_i x5), some (ax_i x6), some (ax_i x7)] [ax_i (V4 222 75), ax_i x5, .ref 237] rfl ?_
            obtain ⟨o10, h⟩ := h
            obtain ⟨V7, eV7⟩ : ∃ W9 : ax_V, W9 = ax_u V4 237 x5 (V4 222 75) := ⟨_, rfl⟩
            have h := h V7 eV7
            have hg7 : ax_g V7 := eV7 ▸ ax_u_g hg4 (hg4 _ _)
            refine ax_ist (n := 240) (pc' := 242) ⟨_, rfl⟩ ay_ok ay_237 (by decide) o10 eV7 rfl ?_
            exact h
      · have h := h.1 (Classical.not_not.mp hc)
        refine ax_mv 1 197 [some (.ref 222), some (ax_i x1), y2, some (ax_i x3), some (ax_i x4), some (ax_i x5), some (ax_i x6), some (ax_i x7)] [ax_i 0] rfl ?_
        exact ax_iret ⟨_, rfl⟩ rfl (ax_nbv (by decide)) (by decide) hg3 h
set_option maxRecDepth 20000 in
theorem r_Model_readFlows_242 {d : Nat} {V : ax_V} {Φ : Int → ax_V → Prop} {Θ : ax_V → Prop} {x1 : Int} {y2 : Option Value} {x3 : Int} {x4 : Int} {y5 : Option Value} {x6 : Int} {y7 : Option Value} (hg : ax_g V) (hx1 : ax_rg x1) (hy2 : ax_y y2) (hx3 : ax_rg x3) (hx4 : ax_rg x4) (hy5 : ax_y y5) (hx6 : ax_rg x6) (hy7 : ax_y y7) (h : ((x6 = 0 → ((x1 = 1 → (0 ≤ V 222 10 ∧ V 222 10 < 9) ∧ (0 ≤ (26 * (V 222 10)) + (V 227 (V 222 10)) ∧ (26 * (V 222 10)) + (V 227 (V 222 10)) < 240) ∧ (∀ V4, V4 = ax_u V 230 ((26 * (V 222 10)) + (V 227 (V 222 10))) x4 → (0 ≤ V4 222 10 ∧ V4 222 10 < 9) ∧ (0 ≤ V4 222 10 ∧ V4 222 10 < 9) ∧ ax_rg ((V4 227 (V4 222 10)) + 1) ∧ (∀ V5, V5 = ax_u V4 227 (V4 222 10) ((V4 227 (V4 222 10)) + 1) → k_Model_readFlows_373 d x1 y2 (some (ax_i x3)) (some (ax_i x4)) y5 (some (ax_i x6)) y7 V5 Φ Θ))) ∧ (¬ x1 = 1 → ((x1 = 2 → (0 ≤ V 222 10 ∧ V 222 10 < 9) ∧ (0 ≤ (26 * (V 222 10)) + (V 228 (V 222 10)) ∧ (26 * (V 222 10)) + (V 228 (V 222 10)) < 240) ∧ (∀ V2, V2 = ax_u V 231 ((26 * (V 222 10)) + (V 228 (V 222 10))) x4 → (0 ≤ V2 222 10 ∧ V2 222 10 < 9) ∧ (0 ≤ V2 222 10 ∧ V2 222 10 < 9) ∧ ax_rg ((V2 228 (V2 222 10)) + 1) ∧ (∀ V3, V3 = ax_u V2 228 (V2 222 10) ((V2 228 (V2 222 10)) + 1) → k_Model_readFlows_373 d x1 y2 (some (ax_i x3)) (some (ax_i x4)) y5 (some (ax_i x6)) y7 V3 Φ Θ))) ∧ (¬ x1 = 2 → (0 ≤ V 222 10 ∧ V 222 10 < 9) ∧ (0 ≤ V 222 10 ∧ V 222 10 < 9) ∧ ax_rg ((V 229 (V 222 10)) + 1) ∧ (∀ V1, V1 = ax_u V 229 (V 222 10) ((V 229 (V 222 10)) + 1) → k_Model_readFlows_373 d x1 y2 (some (ax_i x3)) (some (ax_i x4)) y5 (some (ax_i x6)) y7 V1 Φ Θ)))))) ∧ (¬ x6 = 0 → ((V 222 73 = -1 → (∀ V7, V7 = ax_u V 222 73 x3 → k_Model_readFlows_373 d x1 y2 (some (ax_i x3)) (some (ax_i x4)) y5 (some (ax_i x6)) y7 V7 Φ Θ)) ∧ (¬ V 222 73 = -1 → (∀ V6, V6 = ax_u V 222 73 (V 222 73) → k_Model_readFlows_373 d x1 y2 (some (ax_i x3)) (some (ax_i x4)) y5 (some (ax_i x6)) y7 V6 Φ Θ)))))) : k_Model_readFlows_242 d x1 y2 x3 x4 y5 x6 y7 V Φ Θ := by
  refine ax_mv 1 244 [some (.ref 222), some (ax_i x1), y2, some (ax_i x3), some (ax_i x4), y5, some (ax_i x6), y7] [ax_i x6] rfl ?_
  refine ax_if (p1 := 270) (p2 := 247) ⟨_, rfl⟩ (by decide) rfl hx6 (fun hc => ?_) (fun hc => ?_)
  · have h := h.1 hc
    refine ax_mv 2 272 [some (.ref 222), some (ax_i x1), y2, some (ax_i x3), some (ax_i x4), y5, some (ax_i x6), y7] [ax_i 1, ax_i x1] rfl ?_
    refine ax_if2 (p1 := 315) (p2 := 275) ⟨_, rfl⟩ (by decide) rfl hx1 (by decide) (fun hc => ?_) (fun hc => ?_)
    · have h := h.2 hc
      refine ax_mv 2 317 [some (.ref 222), some (ax_i x1), y2, some (ax_i x3), some (ax_i x4), y5, some (ax_i x6), y7] [ax_i 2, ax_i x1] rfl ?_
      refine ax_if2 (p1 := 360) (p2 := 320) ⟨_, rfl⟩ (by decide) rfl hx1 (by decide) (fun hc => ?_) (fun hc => ?_)
      · have h := h.2 hc
        refine ax_mv 1 361 [some (.ref 222), some (ax_i x1), y2, some (ax_i x3), some (ax_i x4), y5, some (ax_i x6), y7] [.ref 222] rfl ?_
        refine ax_gR (v := .ref 229) (pc' := 364) ⟨_, rfl⟩ fl_12_28 ay_222 rfl rfl ?_
        refine ax_mv 1 365 [some (.ref 222), some (ax_i x1), y2, some (ax_i x3), some (ax_i x4), y5, some (ax_i x6), y7] [.ref 222, .ref 229] rfl ?_
        refine ax_gI (kI := 10) (pc' := 368) ⟨_, rfl⟩ fl_12_320 ay_222 rfl rfl rfl ?_
        refine ax_mv 1 369 [some (.ref 222), some (ax_i x1), y2, some (ax_i x3), some (ax_i x4), y5, some (ax_i x6), y7] [ax_i (V 222 10), .ref 229, ax_i (V 222 10), .ref 229] rfl ?_
        obtain ⟨o11, h⟩ := h
        refine ax_ild (n := 9) (pc' := 370) ⟨_, rfl⟩ ay_229 (by decide) o11 rfl ?_
        refine ax_mv 1 371 [some (.ref 222), some (ax_i x1), y2, some (ax_i x3), some (ax_i x4), y5, some (ax_i x6), y7] [ax_i 1, ax_i (V 229 (V 222 10)), ax_i (V 222 10), .ref 229] rfl ?_
        refine ax_add (pc' := 372) ⟨_, rfl⟩ rfl ?_
        obtain ⟨o12, o13, h⟩ := h
        obtain ⟨V1, eV1⟩ : ∃ W9 : ax_V, W9 = ax_u V 229 (V 222 10) ((V 229 (V 222 10)) + 1) := ⟨_, rfl⟩
        have h := h V1 eV1
        have hg1 : ax_g V1 := eV1 ▸ ax_u_g hg o13
        refine ax_ist (n := 9) (pc' := 373) ⟨_, rfl⟩ ay_ok ay_229 (by decide) o12 eV1 rfl ?_
        exact h
      · have h := h.1 (Classical.not_not.mp hc)
        refine ax_mv 1 321 [some (.ref 222), some (ax_i x1), y2, some (ax_i x3), some (ax_i x4), y5, some (ax_i x6), y7] [.ref 222] rfl ?_
        refine ax_gR (v := .ref 231) (pc' := 324) ⟨_, rfl⟩ fl_12_34 ay_222 rfl rfl ?_
        refine ax_bip (pc' := 326) ⟨_, rfl⟩ (by decide) rfl ?_
        refine ax_mv 1 327 [some (.ref 222), some (ax_i x1), y2, some (ax_i x3), some (ax_i x4), y5, some (ax_i x6), y7] [.ref 222, ax_i 26, .ref 231] rfl ?_
        refine ax_gI (kI := 10) (pc' := 330) ⟨_, rfl⟩ fl_12_320 ay_222 rfl rfl rfl ?_
        refine ax_mul (pc' := 331) ⟨_, rfl⟩ rfl ?_
        refine ax_mv 1 332 [some (.ref 222), some (ax_i x1), y2, some (ax_i x3), some (ax_i x4), y5, some (ax_i x6), y7] [.ref 222, ax_i (26 * (V 222 10)), .ref 231] rfl ?_
        refine ax_gR (v := .ref 228) (pc' := 335) ⟨_, rfl⟩ fl_12_25 ay_222 rfl rfl ?_
        refine ax_mv 1 336 [some (.ref 222), some (ax_i x1), y2, some (ax_i x3), some (ax_i x4), y5, some (ax_i x6), y7] [.ref 222, .ref 228, ax_i (26 * (V 222 10)), .ref 231] rfl ?_
        refine ax_gI (kI := 10) (pc' := 339) ⟨_, rfl⟩ fl_12_320 ay_222 rfl rfl rfl ?_
        obtain ⟨o14, h⟩ := h
        refine ax_ild (n := 9) (pc' := 340) ⟨_, rfl⟩ ay_228 (by decide) o14 rfl ?_
        refine ax_add (pc' := 341) ⟨_, rfl⟩ rfl ?_
        refine ax_mv 1 343 [some (.ref 222), some (ax_i x1), y2, some (ax_i x3), some (ax_i x4), y5, some (ax_i x6), y7] [ax_i x4, ax_i ((26 * (V 222 10)) + (V 228 (V 222 10))), .ref 231] rfl ?_
        obtain ⟨o15, h⟩ := h
        obtain ⟨V2, eV2⟩ : ∃ W9 : ax_V, W9 = ax_u V 231 ((26 * (V 222 10)) + (V 228 (V 222 10))) x4 := ⟨_, rfl⟩
        have h := h V2 eV2
        have hg2 : ax_g V2 := eV2 ▸ ax_u_g hg hx4
        refine ax_ist (n := 240) (pc' := 344) ⟨_, rfl⟩ ay_ok ay_231 (by decide) o15 eV2 rfl ?_
        refine ax_mv 1 345 [some (.ref 222), some (ax_i x1), y2, some (ax_i x3), some (ax_i x4), y5, some (ax_i x6), y7] [.ref 222] rfl ?_
        refine ax_gR (v := .ref 228) (pc' := 348) ⟨_, rfl⟩ fl_12_25 ay_222 rfl rfl ?_
        refine ax_mv 1 349 [some (.ref 222), some (ax_i x1), y2, some (ax_i x3), some (ax_i x4), y5, some (ax_i x6), y7] [.ref 222, .ref 228] rfl ?_
        refine ax_gI (kI := 10) (pc' := 352) ⟨_, rfl⟩ fl_12_320 ay_222 rfl rfl rfl ?_
        refine ax_mv 1 353 [some (.ref 222), some (ax_i x1), y2, some (ax_i x3), some (ax_i x4), y5, some (ax_i x6), y7] [ax_i (V2 222 10), .ref 228, ax_i (V2 222 10), .ref 228] rfl ?_
        obtain ⟨o16, h⟩ := h
        refine ax_ild (n := 9) (pc' := 354) ⟨_, rfl⟩ ay_228 (by decide) o16 rfl ?_
        refine ax_mv 1 355 [some (.ref 222), some (ax_i x1), y2, some (ax_i x3), some (ax_i x4), y5, some (ax_i x6), y7] [ax_i 1, ax_i (V2 228 (V2 222 10)), ax_i (V2 222 10), .ref 228] rfl ?_
        refine ax_add (pc' := 356) ⟨_, rfl⟩ rfl ?_
        obtain ⟨o17, o18, h⟩ := h
        obtain ⟨V3, eV3⟩ : ∃ W9 : ax_V, W9 = ax_u V2 228 (V2 222 10) ((V2 228 (V2 222 10)) + 1) := ⟨_, rfl⟩
        have h := h V3 eV3
        have hg3 : ax_g V3 := eV3 ▸ ax_u_g hg2 o18
        refine ax_ist (n := 9) (pc' := 357) ⟨_, rfl⟩ ay_ok ay_228 (by decide) o17 eV3 rfl ?_
        refine ax_mv 1 373 [some (.ref 222), some (ax_i x1), y2, some (ax_i x3), some (ax_i x4), y5, some (ax_i x6), y7] [] rfl ?_
        exact h
    · have h := h.1 (Classical.not_not.mp hc)
      refine ax_mv 1 276 [some (.ref 222), some (ax_i x1), y2, some (ax_i x3), some (ax_i x4), y5, some (ax_i x6), y7] [.ref 222] rfl ?_
      refine ax_gR (v := .ref 230) (pc' := 279) ⟨_, rfl⟩ fl_12_31 ay_222 rfl rfl ?_
      refine ax_bip (pc' := 281) ⟨_, rfl⟩ (by decide) rfl ?_
      refine ax_mv 1 282 [some (.ref 222), some (ax_i x1), y2, some (ax_i x3), some (ax_i x4), y5, some (ax_i x6), y7] [.ref 222, ax_i 26, .ref 230] rfl ?_
      refine ax_gI (kI := 10) (pc' := 285) ⟨_, rfl⟩ fl_12_320 ay_222 rfl rfl rfl ?_
      refine ax_mul (pc' := 286) ⟨_, rfl⟩ rfl ?_
      refine ax_mv 1 287 [some (.ref 222), some (ax_i x1), y2, some (ax_i x3), some (ax_i x4), y5, some (ax_i x6), y7] [.ref 222, ax_i (26 * (V 222 10)), .ref 230] rfl ?_
      refine ax_gR (v := .ref 227) (pc' := 290) ⟨_, rfl⟩ fl_12_22 ay_222 rfl rfl ?_
      refine ax_mv 1 291 [some (.ref 222), some (ax_i x1), y2, some (ax_i x3), some (ax_i x4), y5, some (ax_i x6), y7] [.ref 222, .ref 227, ax_i (26 * (V 222 10)), .ref 230] rfl ?_
      refine ax_gI (kI := 10) (pc' := 294) ⟨_, rfl⟩ fl_12_320 ay_222 rfl rfl rfl ?_
      obtain ⟨o19, h⟩ := h
      refine ax_ild (n := 9) (pc' := 295) ⟨_, rfl⟩ ay_227 (by decide) o19 rfl ?_
      refine ax_add (pc' := 296) ⟨_, rfl⟩ rfl ?_
      refine ax_mv 1 298 [some (.ref 222), some (ax_i x1), y2, some (ax_i x3), some (ax_i x4), y5, some (ax_i x6), y7] [ax_i x4, ax_i ((26 * (V 222 10)) + (V 227 (V 222 10))), .ref 230] rfl ?_
      obtain ⟨o20, h⟩ := h
      obtain ⟨V4, eV4⟩ : ∃ W9 : ax_V, W9 = ax_u V 230 ((26 * (V 222 10)) + (V 227 (V 222 10))) x4 := ⟨_, rfl⟩
      have h := h V4 eV4
      have hg4 : ax_g V4 := eV4 ▸ ax_u_g hg hx4
      refine ax_ist (n := 240) (pc' := 299) ⟨_, rfl⟩ ay_ok ay_230 (by decide) o20 eV4 rfl ?_
      refine ax_mv 1 300 [some (.ref 222), some (ax_i x1), y2, some (ax_i x3), some (ax_i x4), y5, some (ax_i x6), y7] [.ref 222] rfl ?_
      refine ax_gR (v := .ref 227) (pc' := 303) ⟨_, rfl⟩ fl_12_22 ay_222 rfl rfl ?_
      refine ax_mv 1 304 [some (.ref 222), some (ax_i x1), y2, some (ax_i x3), some (ax_i x4), y5, some (ax_i x6), y7] [.ref 222, .ref 227] rfl ?_
      refine ax_gI (kI := 10) (pc' := 307) ⟨_, rfl⟩ fl_12_320 ay_222 rfl rfl rfl ?_
      refine ax_mv 1 308 [some (.ref 222), some (ax_i x1), y2, some (ax_i x3), some (ax_i x4), y5, some (ax_i x6), y7] [ax_i (V4 222 10), .ref 227, ax_i (V4 222 10), .ref 227] rfl ?_
      obtain ⟨o21, h⟩ := h
      refine ax_ild (n := 9) (pc' := 309) ⟨_, rfl⟩ ay_227 (by decide) o21 rfl ?_
      refine ax_mv 1 310 [some (.ref 222), some (ax_i x1), y2, some (ax_i x3), some (ax_i x4), y5, some (ax_i x6), y7] [ax_i 1, ax_i (V4 227 (V4 222 10)), ax_i (V4 222 10), .ref 227] rfl ?_
      refine ax_add (pc' := 311) ⟨_, rfl⟩ rfl ?_
      obtain ⟨o22, o23, h⟩ := h
      obtain ⟨V5, eV5⟩ : ∃ W9 : ax_V, W9 = ax_u V4 227 (V4 222 10) ((V4 227 (V4 222 10)) + 1) := ⟨_, rfl⟩
      have h := h V5 eV5
      have hg5 : ax_g V5 := eV5 ▸ ax_u_g hg4 o23
      refine ax_ist (n := 9) (pc' := 312) ⟨_, rfl⟩ ay_ok ay_227 (by decide) o22 eV5 rfl ?_
      refine ax_mv 1 373 [some (.ref 222), some (ax_i x1), y2, some (ax_i x3), some (ax_i x4), y5, some (ax_i x6), y7] [] rfl ?_
      exact h
  · have h := h.2 hc
    refine ax_mv 2 249 [some (.ref 222), some (ax_i x1), y2, some (ax_i x3), some (ax_i x4), y5, some (ax_i x6), y7] [.ref 222, .ref 222] rfl ?_
    refine ax_gI (kI := 73) (pc' := 252) ⟨_, rfl⟩ fl_12_304 ay_222 rfl rfl rfl ?_
    refine ax_mv 1 253 [some (.ref 222), some (ax_i x1), y2, some (ax_i x3), some (ax_i x4), y5, some (ax_i x6), y7] [ax_i (-1), ax_i (V 222 73), .ref 222] rfl ?_
    refine ax_if2 (p1 := 260) (p2 := 256) ⟨_, rfl⟩ (by decide) rfl (hg _ _) (by decide) (fun hc => ?_) (fun hc => ?_)
    · have h := h.2 hc
      refine ax_mv 1 261 [some (.ref 222), some (ax_i x1), y2, some (ax_i x3), some (ax_i x4), y5, some (ax_i x6), y7] [.ref 222, .ref 222] rfl ?_
      refine ax_gI (kI := 73) (pc' := 264) ⟨_, rfl⟩ fl_12_304 ay_222 rfl rfl rfl ?_
      obtain ⟨V6, eV6⟩ : ∃ W9 : ax_V, W9 = ax_u V 222 73 (V 222 73) := ⟨_, rfl⟩
      have h := h V6 eV6
      have hg6 : ax_g V6 := eV6 ▸ ax_u_g hg (hg _ _)
      refine ax_pI (kI := 73) (pc' := 267) ⟨_, rfl⟩ fl_12_304 ay_ok ay_222 rfl rfl rfl rfl eV6 rfl ?_
      refine ax_mv 1 373 [some (.ref 222), some (ax_i x1), y2, some (ax_i x3), some (ax_i x4), y5, some (ax_i x6), y7] [] rfl ?_
      exact h
    · have h := h.1 (Classical.not_not.mp hc)
      refine ax_mv 2 264 [some (.ref 222), some (ax_i x1), y2, some (ax_i x3), some (ax_i x4), y5, some (ax_i x6), y7] [ax_i x3, .ref 222] rfl ?_
      obtain ⟨V7, eV7⟩ : ∃ W9 : ax_V, W9 = ax_u V 222 73 x3 := ⟨_, rfl⟩
      have h := h V7 eV7
      have hg7 : ax_g V7 := eV7 ▸ ax_u_g hg hx3
      refine ax_pI (kI := 73) (pc' := 267) ⟨_, rfl⟩ fl_12_304 ay_ok ay_222 rfl rfl rfl rfl eV7 rfl ?_
      refine ax_mv 1 373 [some (.ref 222), some (ax_i x1), y2, some (ax_i x3), some (ax_i x4), y5, some (ax_i x6), y7] [] rfl ?_
      exact h
set_option maxRecDepth 20000 in
theorem r_Model_readFlows_373 {d : Nat} {V : ax_V} {Φ : Int → ax_V → Prop} {Θ : ax_V → Prop} {x1 : Int} {y2 : Option Value} {y3 : Option Value} {y4 : Option Value} {y5 : Option Value} {y6 : Option Value} {y7 : Option Value} (hg : ax_g V) (hx1 : ax_rg x1) (hy2 : ax_y y2) (hy3 : ax_y y3) (hy4 : ax_y y4) (hy5 : ax_y y5) (hy6 : ax_y y6) (hy7 : ax_y y7) (h : ax_I ay_lay d q_Model_see [.ref 222] V (fun r1 V1 => ((r1 = 44 → ax_rg ((V1 222 68) + 1) ∧ (∀ V3, V3 = ax_u V1 222 68 ((V1 222 68) + 1) → k_Model_readFlows_2 d x1 1 y3 y4 y5 y6 y7 V3 Φ Θ)) ∧ (¬ r1 = 44 → ax_rg ((V1 222 68) + 0) ∧ (∀ V2, V2 = ax_u V1 222 68 ((V1 222 68) + 0) → k_Model_readFlows_2 d x1 0 y3 y4 y5 y6 y7 V2 Φ Θ)))) Θ) : k_Model_readFlows_373 d x1 y2 y3 y4 y5 y6 y7 V Φ Θ := by
  refine ax_mv 1 374 [some (.ref 222), some (ax_i x1), y2, y3, y4, y5, y6, y7] [.ref 222] rfl ?_
  refine ax_callI (pc' := 377) ⟨_, rfl⟩ ml_12_300 (rest := []) rfl (fun ss hs => ⟨_, _, ay_222 ss hs⟩) (Nat.le_of_ble_eq_true rfl) rfl rfl h (fun r1 V1 hg1 hr1 h => ?_)
  refine ax_bip (pc' := 379) ⟨_, rfl⟩ (by decide) rfl ?_
  refine ax_if2 (p1 := 386) (p2 := 382) ⟨_, rfl⟩ (by decide) rfl hr1 (by decide) (fun hc => ?_) (fun hc => ?_)
  · have h := h.2 hc
    refine ax_mv 1 387 [some (.ref 222), some (ax_i x1), y2, y3, y4, y5, y6, y7] [ax_i 0] rfl ?_
    refine ax_sti (i := 0) (k := 2) (n := 1) (pc' := 388) (L' := [some (.ref 222), some (ax_i x1), some (ax_i 0), y3, y4, y5, y6, y7]) ⟨_, rfl⟩ rfl rfl rfl (Nat.le_of_ble_eq_true rfl) rfl rfl ?_
    refine ax_mv 2 390 [some (.ref 222), some (ax_i x1), some (ax_i 0), y3, y4, y5, y6, y7] [.ref 222, .ref 222] rfl ?_
    refine ax_gI (kI := 68) (pc' := 393) ⟨_, rfl⟩ fl_12_294 ay_222 rfl rfl rfl ?_
    refine ax_mv 1 394 [some (.ref 222), some (ax_i x1), some (ax_i 0), y3, y4, y5, y6, y7] [ax_i 0, ax_i (V1 222 68), .ref 222] rfl ?_
    refine ax_if (p1 := 401) (p2 := 397) ⟨_, rfl⟩ (by decide) rfl (by decide) (fun _ => ?_) (fun hc => absurd (by unfold ax_k0; decide) hc)
    refine ax_mv 1 402 [some (.ref 222), some (ax_i x1), some (ax_i 0), y3, y4, y5, y6, y7] [ax_i 0, ax_i (V1 222 68), .ref 222] rfl ?_
    refine ax_add (pc' := 403) ⟨_, rfl⟩ rfl ?_
    obtain ⟨o24, h⟩ := h
    obtain ⟨V2, eV2⟩ : ∃ W9 : ax_V, W9 = ax_u V1 222 68 ((V1 222 68) + 0) := ⟨_, rfl⟩
    have h := h V2 eV2
    have hg2 : ax_g V2 := eV2 ▸ ax_u_g hg1 o24
    refine ax_pI (kI := 68) (pc' := 406) ⟨_, rfl⟩ fl_12_294 ay_ok ay_222 rfl rfl rfl rfl eV2 rfl ?_
    refine ax_mv 1 2 [some (.ref 222), some (ax_i x1), some (ax_i 0), y3, y4, y5, y6, y7] [] rfl ?_
    exact h
  · have h := h.1 (Classical.not_not.mp hc)
    refine ax_mv 2 387 [some (.ref 222), some (ax_i x1), y2, y3, y4, y5, y6, y7] [ax_i 1] rfl ?_
    refine ax_sti (i := 0) (k := 2) (n := 1) (pc' := 388) (L' := [some (.ref 222), some (ax_i x1), some (ax_i 1), y3, y4, y5, y6, y7]) ⟨_, rfl⟩ rfl rfl rfl (Nat.le_of_ble_eq_true rfl) rfl rfl ?_
    refine ax_mv 2 390 [some (.ref 222), some (ax_i x1), some (ax_i 1), y3, y4, y5, y6, y7] [.ref 222, .ref 222] rfl ?_
    refine ax_gI (kI := 68) (pc' := 393) ⟨_, rfl⟩ fl_12_294 ay_222 rfl rfl rfl ?_
    refine ax_mv 1 394 [some (.ref 222), some (ax_i x1), some (ax_i 1), y3, y4, y5, y6, y7] [ax_i 1, ax_i (V1 222 68), .ref 222] rfl ?_
    refine ax_if (p1 := 401) (p2 := 397) ⟨_, rfl⟩ (by decide) rfl (by decide) (fun hc => absurd hc (by unfold ax_k0; decide)) (fun _ => ?_)
    refine ax_mv 2 402 [some (.ref 222), some (ax_i x1), some (ax_i 1), y3, y4, y5, y6, y7] [ax_i 1, ax_i (V1 222 68), .ref 222] rfl ?_
    refine ax_add (pc' := 403) ⟨_, rfl⟩ rfl ?_
    obtain ⟨o25, h⟩ := h
    obtain ⟨V3, eV3⟩ : ∃ W9 : ax_V, W9 = ax_u V1 222 68 ((V1 222 68) + 1) := ⟨_, rfl⟩
    have h := h V3 eV3
    have hg3 : ax_g V3 := eV3 ▸ ax_u_g hg1 o25
    refine ax_pI (kI := 68) (pc' := 406) ⟨_, rfl⟩ fl_12_294 ay_ok ay_222 rfl rfl rfl rfl eV3 rfl ?_
    refine ax_mv 1 2 [some (.ref 222), some (ax_i x1), some (ax_i 1), y3, y4, y5, y6, y7] [] rfl ?_
    exact h
set_option maxRecDepth 20000 in
theorem r_Model_readFlows {d : Nat} {V : ax_V} {Φ : Int → ax_V → Prop} {Θ : ax_V → Prop} {x1 : Int} (hg : ax_g V) (hx1 : ax_rg x1) (h : k_Model_readFlows_2 d x1 1 none none none none none V Φ Θ) : ax_I ay_lay (d + 1) q_Model_readFlows [.ref 222, ax_i x1] V Φ Θ := by
  refine ax_T.of (M := m_Model_readFlows) rfl (Nat.le_of_ble_eq_true rfl) ?_
  refine ax_mv 0 0 [some (.ref 222), some (ax_i x1), none, none, none, none, none, none] [] rfl ?_
  refine ax_mv 1 1 [some (.ref 222), some (ax_i x1), none, none, none, none, none, none] [ax_i 1] rfl ?_
  refine ax_sti (i := 0) (k := 2) (n := 1) (pc' := 2) (L' := [some (.ref 222), some (ax_i x1), some (ax_i 1), none, none, none, none, none]) ⟨_, rfl⟩ rfl rfl rfl (Nat.le_of_ble_eq_true rfl) rfl rfl ?_
  exact h
theorem r_Model_takeLetter {d : Nat} {V : ax_V} {Φ : Int → ax_V → Prop} {Θ : ax_V → Prop} (hg : ax_g V) (h : ax_I ay_lay d q_Model_isLetter [.ref 222] V (fun r1 V1 => ((r1 = 0 → Φ (-1) V1) ∧ (¬ r1 = 0 → ax_rg ((V1 222 68) + 1) ∧ (∀ V2, V2 = ax_u V1 222 68 ((V1 222 68) + 1) → (0 ≤ (V2 222 68) - 1 ∧ (V2 222 68) - 1 < 700) ∧ ax_rg ((V2 224 ((V2 222 68) - 1)) - 97) ∧ Φ ((V2 224 ((V2 222 68) - 1)) - 97) V2)))) Θ) : ax_I ay_lay (d + 1) q_Model_takeLetter [.ref 222] V Φ Θ := by
  refine ax_T.of (M := m_Model_takeLetter) rfl (Nat.le_of_ble_eq_true rfl) ?_
  refine ax_mv 0 0 [some (.ref 222)] [] rfl ?_
  refine ax_mv 1 1 [some (.ref 222)] [.ref 222] rfl ?_
  refine ax_callI (pc' := 4) ⟨_, rfl⟩ ml_12_326 (rest := []) rfl (fun ss hs => ⟨_, _, ay_222 ss hs⟩) (Nat.le_of_ble_eq_true rfl) rfl rfl h (fun r1 V1 hg1 hr1 h => ?_)
  refine ax_if (p1 := 9) (p2 := 7) ⟨_, rfl⟩ (by decide) rfl hr1 (fun hc => ?_) (fun hc => ?_)
  · have h := h.2 hc
    refine ax_mv 2 11 [some (.ref 222)] [.ref 222, .ref 222] rfl ?_
    refine ax_gI (kI := 68) (pc' := 14) ⟨_, rfl⟩ fl_12_294 ay_222 rfl rfl rfl ?_
    refine ax_mv 1 15 [some (.ref 222)] [ax_i 1, ax_i (V1 222 68), .ref 222] rfl ?_
    refine ax_add (pc' := 16) ⟨_, rfl⟩ rfl ?_
    obtain ⟨o1, h⟩ := h
    obtain ⟨V2, eV2⟩ : ∃ W9 : ax_V, W9 = ax_u V1 222 68 ((V1 222 68) + 1) := ⟨_, rfl⟩
    have h := h V2 eV2
    have hg2 : ax_g V2 := eV2 ▸ ax_u_g hg1 o1
    refine ax_pI (kI := 68) (pc' := 19) ⟨_, rfl⟩ fl_12_294 ay_ok ay_222 rfl rfl rfl rfl eV2 rfl ?_
    refine ax_mv 1 20 [some (.ref 222)] [.ref 222] rfl ?_
    refine ax_gR (v := .ref 224) (pc' := 23) ⟨_, rfl⟩ fl_12_13 ay_222 rfl rfl ?_
    refine ax_mv 1 24 [some (.ref 222)] [.ref 222, .ref 224] rfl ?_
    refine ax_gI (kI := 68) (pc' := 27) ⟨_, rfl⟩ fl_12_294 ay_222 rfl rfl rfl ?_
    refine ax_mv 1 28 [some (.ref 222)] [ax_i 1, ax_i (V2 222 68), .ref 224] rfl ?_
    refine ax_sub (pc' := 29) ⟨_, rfl⟩ rfl ?_
    obtain ⟨o2, h⟩ := h
    refine ax_ild (n := 700) (pc' := 30) ⟨_, rfl⟩ ay_224 (by decide) o2 rfl ?_
    refine ax_bip (pc' := 32) ⟨_, rfl⟩ (by decide) rfl ?_
    refine ax_sub (pc' := 33) ⟨_, rfl⟩ rfl ?_
    obtain ⟨o3, h⟩ := h
    exact ax_iret ⟨_, rfl⟩ rfl rfl o3 hg2 h
  · have h := h.1 (Classical.not_not.mp hc)
    refine ax_mv 1 8 [some (.ref 222)] [ax_i (-1)] rfl ?_
    exact ax_iret ⟨_, rfl⟩ rfl rfl (by decide) hg1 h
theorem r_Model_isLetter {d : Nat} {V : ax_V} {Φ : Int → ax_V → Prop} {Θ : ax_V → Prop} (hg : ax_g V) (h : ax_I ay_lay d q_Model_see [.ref 222] V (fun r1 V1 => ax_I ay_lay d q_Model_within [ax_i r1, ax_i 97, ax_i 122] V1 (fun r2 V2 => (r2 = 0 ∨ r2 = 1) ∧ Φ r2 V2) (fun _ => False)) Θ) : ax_I ay_lay (d + 1) q_Model_isLetter [.ref 222] V Φ Θ := by
  refine ax_T.of (M := m_Model_isLetter) rfl (Nat.le_of_ble_eq_true rfl) ?_
  refine ax_mv 0 0 [some (.ref 222)] [] rfl ?_
  refine ax_mv 1 1 [some (.ref 222)] [.ref 222] rfl ?_
  refine ax_callI (pc' := 4) ⟨_, rfl⟩ ml_12_300 (rest := []) rfl (fun ss hs => ⟨_, _, ay_222 ss hs⟩) (Nat.le_of_ble_eq_true rfl) rfl rfl h (fun r1 V1 hg1 hr1 h => ?_)
  refine ax_bip (pc' := 6) ⟨_, rfl⟩ (by decide) rfl ?_
  refine ax_bip (pc' := 8) ⟨_, rfl⟩ (by decide) rfl ?_
  refine ax_callS (pc' := 11) ⟨_, rfl⟩ ml_12_307 (Nat.le_of_ble_eq_true rfl) (Nat.le_of_ble_eq_true rfl) rfl h (fun r2 V2 hg2 hr2 h => ?_)
  refine ax_mv 0 11 [some (.ref 222)] [ax_i r2] rfl ?_
  obtain ⟨o1, h⟩ := h
  exact ax_iret ⟨_, rfl⟩ rfl (ax_nbv o1) hr2 hg2 h
theorem r_Model_note {d : Nat} {V : ax_V} {Φ : ax_V → Prop} {Θ : ax_V → Prop} {x1 : Int} (hg : ax_g V) (hx1 : ax_rg x1) (h : ((V 222 73 = -1 → (∀ V1, V1 = ax_u V 222 73 x1 → Φ V1)) ∧ (¬ V 222 73 = -1 → ((V 222 73 ≤ x1 → Φ V) ∧ (x1 < V 222 73 → (∀ V2, V2 = ax_u V 222 73 x1 → Φ V2)))))) : ax_N ay_lay (d + 1) q_Model_note [.ref 222, ax_i x1] V Φ Θ := by
  refine ax_T.of (M := m_Model_note) rfl (Nat.le_of_ble_eq_true rfl) ?_
  refine ax_mv 0 0 [some (.ref 222), some (ax_i x1)] [] rfl ?_
  refine ax_mv 1 1 [some (.ref 222), some (ax_i x1)] [.ref 222] rfl ?_
  refine ax_gI (kI := 73) (pc' := 4) ⟨_, rfl⟩ fl_12_304 ay_222 rfl rfl rfl ?_
  refine ax_mv 1 5 [some (.ref 222), some (ax_i x1)] [ax_i (-1), ax_i (V 222 73)] rfl ?_
  refine ax_if2 (p1 := 16) (p2 := 8) ⟨_, rfl⟩ (by decide) rfl (hg _ _) (by decide) (fun hc => ?_) (fun hc => ?_)
  · have h := h.1 hc
    refine ax_mv 2 18 [some (.ref 222), some (ax_i x1)] [ax_i x1, .ref 222] rfl ?_
    obtain ⟨V1, eV1⟩ : ∃ W9 : ax_V, W9 = ax_u V 222 73 x1 := ⟨_, rfl⟩
    have h := h V1 eV1
    have hg1 : ax_g V1 := eV1 ▸ ax_u_g hg hx1
    refine ax_pI (kI := 73) (pc' := 21) ⟨_, rfl⟩ fl_12_304 ay_ok ay_222 rfl rfl rfl rfl eV1 rfl ?_
    exact ax_nret ⟨_, rfl⟩ rfl hg1 h
  · have h := h.2 hc
    refine ax_mv 2 10 [some (.ref 222), some (ax_i x1)] [.ref 222, ax_i x1] rfl ?_
    refine ax_gI (kI := 73) (pc' := 13) ⟨_, rfl⟩ fl_12_304 ay_222 rfl rfl rfl ?_
    refine ax_if2 (p1 := 21) (p2 := 16) ⟨_, rfl⟩ (by decide) rfl hx1 (hg _ _) (fun hc => ?_) (fun hc => ?_)
    · have h := h.1 hc
      exact ax_nret ⟨_, rfl⟩ rfl hg h
    · have h := h.2 (Int.not_le.mp hc)
      refine ax_mv 2 18 [some (.ref 222), some (ax_i x1)] [ax_i x1, .ref 222] rfl ?_
      obtain ⟨V2, eV2⟩ : ∃ W9 : ax_V, W9 = ax_u V 222 73 x1 := ⟨_, rfl⟩
      have h := h V2 eV2
      have hg2 : ax_g V2 := eV2 ▸ ax_u_g hg hx1
      refine ax_pI (kI := 73) (pc' := 21) ⟨_, rfl⟩ fl_12_304 ay_ok ay_222 rfl rfl rfl rfl eV2 rfl ?_
      exact ax_nret ⟨_, rfl⟩ rfl hg2 h
abbrev k_Model_readClock_33 (d : Nat) (x1 : Int) (x2 : Int) (x3 : Int) (y4 : Option Value) (V : ax_V) (Φ : Int → ax_V → Prop) (Θ : ax_V → Prop) : Prop := ax_R ay_lay ax_t d m_Model_readClock 33 [some (.ref 222), some (ax_i x1), some (ax_i x2), some (ax_i x3), y4] [] V (ax_Ir Φ) Θ
set_option maxRecDepth 20000 in
theorem r_Model_readClock_33 {d : Nat} {V : ax_V} {Φ : Int → ax_V → Prop} {Θ : ax_V → Prop} {x1 : Int} {x2 : Int} {x3 : Int} {y4 : Option Value} (hg : ax_g V) (hx1 : ax_rg x1) (hx2 : ax_rg x2) (hx3 : ax_rg x3) (hy4 : ax_y y4) (h : (0 ≤ V 222 77 ∧ V 222 77 < 240) ∧ (∀ V1, V1 = ax_u V 280 (V 222 77) (V 222 68) → ax_I ay_lay d q_Model_takeLetter [.ref 222] V1 (fun r2 V2 => ((r2 = -1 → Φ 0 V2) ∧ (¬ r2 = -1 → (0 ≤ V2 222 77 ∧ V2 222 77 < 240) ∧ (∀ V3, V3 = ax_u V2 279 (V2 222 77) r2 → (0 ≤ V3 222 77 ∧ V3 222 77 < 240) ∧ (∀ V4, V4 = ax_u V3 281 (V3 222 77) (V3 222 10) → ax_rg ((V4 222 77) + 1) ∧ (∀ V5, V5 = ax_u V4 222 77 ((V4 222 77) + 1) → ((x2 = 0 → (0 ≤ x1 ∧ x1 < 240) ∧ ax_rg (((2 * r2) + 2) - x3) ∧ (∀ V6, V6 = ax_u V5 235 x1 (((2 * r2) + 2) - x3) → Φ 1 V6)) ∧ (¬ x2 = 0 → Φ 1 V5)))))))) Θ)) : k_Model_readClock_33 d x1 x2 x3 y4 V Φ Θ := by
  refine ax_mv 1 34 [some (.ref 222), some (ax_i x1), some (ax_i x2), some (ax_i x3), y4] [.ref 222] rfl ?_
  refine ax_gR (v := .ref 280) (pc' := 37) ⟨_, rfl⟩ fl_12_182 ay_222 rfl rfl ?_
  refine ax_mv 1 38 [some (.ref 222), some (ax_i x1), some (ax_i x2), some (ax_i x3), y4] [.ref 222, .ref 280] rfl ?_
  refine ax_gI (kI := 77) (pc' := 41) ⟨_, rfl⟩ fl_12_441 ay_222 rfl rfl rfl ?_
  refine ax_mv 1 42 [some (.ref 222), some (ax_i x1), some (ax_i x2), some (ax_i x3), y4] [.ref 222, ax_i (V 222 77), .ref 280] rfl ?_
  refine ax_gI (kI := 68) (pc' := 45) ⟨_, rfl⟩ fl_12_294 ay_222 rfl rfl rfl ?_
  obtain ⟨o1, h⟩ := h
  obtain ⟨V1, eV1⟩ : ∃ W9 : ax_V, W9 = ax_u V 280 (V 222 77) (V 222 68) := ⟨_, rfl⟩
  have h := h V1 eV1
  have hg1 : ax_g V1 := eV1 ▸ ax_u_g hg (hg _ _)
  refine ax_ist (n := 240) (pc' := 46) ⟨_, rfl⟩ ay_ok ay_280 (by decide) o1 eV1 rfl ?_
  refine ax_mv 1 47 [some (.ref 222), some (ax_i x1), some (ax_i x2), some (ax_i x3), y4] [.ref 222] rfl ?_
  refine ax_callI (pc' := 50) ⟨_, rfl⟩ ml_12_393 (rest := []) rfl (fun ss hs => ⟨_, _, ay_222 ss hs⟩) (Nat.le_of_ble_eq_true rfl) rfl rfl h (fun r2 V2 hg2 hr2 h => ?_)
  refine ax_sti (i := 0) (k := 4) (n := 2) (pc' := 52) (L' := [some (.ref 222), some (ax_i x1), some (ax_i x2), some (ax_i x3), some (ax_i r2)]) ⟨_, rfl⟩ rfl rfl rfl (Nat.le_of_ble_eq_true rfl) rfl rfl ?_
  refine ax_mv 2 55 [some (.ref 222), some (ax_i x1), some (ax_i x2), some (ax_i x3), some (ax_i r2)] [ax_i (-1), ax_i r2] rfl ?_
  refine ax_if2 (p1 := 60) (p2 := 58) ⟨_, rfl⟩ (by decide) rfl hr2 (by decide) (fun hc => ?_) (fun hc => ?_)
  · have h := h.2 hc
    refine ax_mv 1 61 [some (.ref 222), some (ax_i x1), some (ax_i x2), some (ax_i x3), some (ax_i r2)] [.ref 222] rfl ?_
    refine ax_gR (v := .ref 279) (pc' := 64) ⟨_, rfl⟩ fl_12_179 ay_222 rfl rfl ?_
    refine ax_mv 1 65 [some (.ref 222), some (ax_i x1), some (ax_i x2), some (ax_i x3), some (ax_i r2)] [.ref 222, .ref 279] rfl ?_
    refine ax_gI (kI := 77) (pc' := 68) ⟨_, rfl⟩ fl_12_441 ay_222 rfl rfl rfl ?_
    refine ax_mv 1 70 [some (.ref 222), some (ax_i x1), some (ax_i x2), some (ax_i x3), some (ax_i r2)] [ax_i r2, ax_i (V2 222 77), .ref 279] rfl ?_
    obtain ⟨o2, h⟩ := h
    obtain ⟨V3, eV3⟩ : ∃ W9 : ax_V, W9 = ax_u V2 279 (V2 222 77) r2 := ⟨_, rfl⟩
    have h := h V3 eV3
    have hg3 : ax_g V3 := eV3 ▸ ax_u_g hg2 hr2
    refine ax_ist (n := 240) (pc' := 71) ⟨_, rfl⟩ ay_ok ay_279 (by decide) o2 eV3 rfl ?_
    refine ax_mv 1 72 [some (.ref 222), some (ax_i x1), some (ax_i x2), some (ax_i x3), some (ax_i r2)] [.ref 222] rfl ?_
    refine ax_gR (v := .ref 281) (pc' := 75) ⟨_, rfl⟩ fl_12_185 ay_222 rfl rfl ?_
    refine ax_mv 1 76 [some (.ref 222), some (ax_i x1), some (ax_i x2), some (ax_i x3), some (ax_i r2)] [.ref 222, .ref 281] rfl ?_
    refine ax_gI (kI := 77) (pc' := 79) ⟨_, rfl⟩ fl_12_441 ay_222 rfl rfl rfl ?_
    refine ax_mv 1 80 [some (.ref 222), some (ax_i x1), some (ax_i x2), some (ax_i x3), some (ax_i r2)] [.ref 222, ax_i (V3 222 77), .ref 281] rfl ?_
    refine ax_gI (kI := 10) (pc' := 83) ⟨_, rfl⟩ fl_12_320 ay_222 rfl rfl rfl ?_
    obtain ⟨o3, h⟩ := h
    obtain ⟨V4, eV4⟩ : ∃ W9 : ax_V, W9 = ax_u V3 281 (V3 222 77) (V3 222 10) := ⟨_, rfl⟩
    have h := h V4 eV4
    have hg4 : ax_g V4 := eV4 ▸ ax_u_g hg3 (hg3 _ _)
    refine ax_ist (n := 240) (pc' := 84) ⟨_, rfl⟩ ay_ok ay_281 (by decide) o3 eV4 rfl ?_
    refine ax_mv 2 86 [some (.ref 222), some (ax_i x1), some (ax_i x2), some (ax_i x3), some (ax_i r2)] [.ref 222, .ref 222] rfl ?_
    refine ax_gI (kI := 77) (pc' := 89) ⟨_, rfl⟩ fl_12_441 ay_222 rfl rfl rfl ?_
    refine ax_mv 1 90 [some (.ref 222), some (ax_i x1), some (ax_i x2), some (ax_i x3), some (ax_i r2)] [ax_i 1, ax_i (V4 222 77), .ref 222] rfl ?_
    refine ax_add (pc' := 91) ⟨_, rfl⟩ rfl ?_
    obtain ⟨o4, h⟩ := h
    obtain ⟨V5, eV5⟩ : ∃ W9 : ax_V, W9 = ax_u V4 222 77 ((V4 222 77) + 1) := ⟨_, rfl⟩
    have h := h V5 eV5
    have hg5 : ax_g V5 := eV5 ▸ ax_u_g hg4 o4
    refine ax_pI (kI := 77) (pc' := 94) ⟨_, rfl⟩ fl_12_441 ay_ok ay_222 rfl rfl rfl rfl eV5 rfl ?_
    refine ax_mv 1 95 [some (.ref 222), some (ax_i x1), some (ax_i x2), some (ax_i x3), some (ax_i r2)] [ax_i x2] rfl ?_
    refine ax_if (p1 := 112) (p2 := 98) ⟨_, rfl⟩ (by decide) rfl hx2 (fun hc => ?_) (fun hc => ?_)
    · have h := h.2 hc
      refine ax_mv 1 113 [some (.ref 222), some (ax_i x1), some (ax_i x2), some (ax_i x3), some (ax_i r2)] [ax_i 1] rfl ?_
      exact ax_iret ⟨_, rfl⟩ rfl (ax_nbv (by decide)) (by decide) hg5 h
    · have h := h.1 (Classical.not_not.mp hc)
      refine ax_mv 1 99 [some (.ref 222), some (ax_i x1), some (ax_i x2), some (ax_i x3), some (ax_i r2)] [.ref 222] rfl ?_
      refine ax_gR (v := .ref 235) (pc' := 102) ⟨_, rfl⟩ fl_12_46 ay_222 rfl rfl ?_
      refine ax_mv 3 106 [some (.ref 222), some (ax_i x1), some (ax_i x2), some (ax_i x3), some (ax_i r2)] [ax_i r2, ax_i 2, ax_i x1, .ref 235] rfl ?_
      refine ax_mul (pc' := 107) ⟨_, rfl⟩ rfl ?_
      refine ax_mv 1 108 [some (.ref 222), some (ax_i x1), some (ax_i x2), some (ax_i x3), some (ax_i r2)] [ax_i 2, ax_i (2 * r2), ax_i x1, .ref 235] rfl ?_
      refine ax_add (pc' := 109) ⟨_, rfl⟩ rfl ?_
      refine ax_mv 1 110 [some (.ref 222), some (ax_i x1), some (ax_i x2), some (ax_i x3), some (ax_i r2)] [ax_i x3, ax_i ((2 * r2) + 2), ax_i x1, .ref 235] rfl ?_
      refine ax_sub (pc' := 111) ⟨_, rfl⟩ rfl ?_
      obtain ⟨o5, o6, h⟩ := h
      obtain ⟨V6, eV6⟩ : ∃ W9 : ax_V, W9 = ax_u V5 235 x1 (((2 * r2) + 2) - x3) := ⟨_, rfl⟩
      have h := h V6 eV6
      have hg6 : ax_g V6 := eV6 ▸ ax_u_g hg5 o6
      refine ax_ist (n := 240) (pc' := 112) ⟨_, rfl⟩ ay_ok ay_235 (by decide) o5 eV6 rfl ?_
      refine ax_mv 1 113 [some (.ref 222), some (ax_i x1), some (ax_i x2), some (ax_i x3), some (ax_i r2)] [ax_i 1] rfl ?_
      exact ax_iret ⟨_, rfl⟩ rfl (ax_nbv (by decide)) (by decide) hg6 h
  · have h := h.1 (Classical.not_not.mp hc)
    refine ax_mv 1 59 [some (.ref 222), some (ax_i x1), some (ax_i x2), some (ax_i x3), some (ax_i r2)] [ax_i 0] rfl ?_
    exact ax_iret ⟨_, rfl⟩ rfl (ax_nbv (by decide)) (by decide) hg2 h
set_option maxRecDepth 20000 in
theorem r_Model_readClock {d : Nat} {V : ax_V} {Φ : Int → ax_V → Prop} {Θ : ax_V → Prop} {x1 : Int} {x2 : Int} (hg : ax_g V) (hx1 : ax_rg x1) (hx2 : ax_rg x2) (h : ax_rg ((V 222 68) + 1) ∧ (∀ V1, V1 = ax_u V 222 68 ((V 222 68) + 1) → ax_I ay_lay d q_Model_see [.ref 222] V1 (fun r2 V2 => ((r2 = 33 → ax_rg ((V2 222 68) + 1) ∧ (∀ V3, V3 = ax_u V2 222 68 ((V2 222 68) + 1) → k_Model_readClock_33 d x1 x2 0 none V3 Φ Θ)) ∧ (¬ r2 = 33 → k_Model_readClock_33 d x1 x2 1 none V2 Φ Θ))) Θ)) : ax_I ay_lay (d + 1) q_Model_readClock [.ref 222, ax_i x1, ax_i x2] V Φ Θ := by
  refine ax_T.of (M := m_Model_readClock) rfl (Nat.le_of_ble_eq_true rfl) ?_
  refine ax_mv 0 0 [some (.ref 222), some (ax_i x1), some (ax_i x2), none, none] [] rfl ?_
  refine ax_mv 2 2 [some (.ref 222), some (ax_i x1), some (ax_i x2), none, none] [.ref 222, .ref 222] rfl ?_
  refine ax_gI (kI := 68) (pc' := 5) ⟨_, rfl⟩ fl_12_294 ay_222 rfl rfl rfl ?_
  refine ax_mv 1 6 [some (.ref 222), some (ax_i x1), some (ax_i x2), none, none] [ax_i 1, ax_i (V 222 68), .ref 222] rfl ?_
  refine ax_add (pc' := 7) ⟨_, rfl⟩ rfl ?_
  obtain ⟨o7, h⟩ := h
  obtain ⟨V1, eV1⟩ : ∃ W9 : ax_V, W9 = ax_u V 222 68 ((V 222 68) + 1) := ⟨_, rfl⟩
  have h := h V1 eV1
  have hg1 : ax_g V1 := eV1 ▸ ax_u_g hg o7
  refine ax_pI (kI := 68) (pc' := 10) ⟨_, rfl⟩ fl_12_294 ay_ok ay_222 rfl rfl rfl rfl eV1 rfl ?_
  refine ax_mv 1 11 [some (.ref 222), some (ax_i x1), some (ax_i x2), none, none] [ax_i 1] rfl ?_
  refine ax_sti (i := 0) (k := 3) (n := 1) (pc' := 12) (L' := [some (.ref 222), some (ax_i x1), some (ax_i x2), some (ax_i 1), none]) ⟨_, rfl⟩ rfl rfl rfl (Nat.le_of_ble_eq_true rfl) rfl rfl ?_
  refine ax_mv 1 13 [some (.ref 222), some (ax_i x1), some (ax_i x2), some (ax_i 1), none] [.ref 222] rfl ?_
  refine ax_callI (pc' := 16) ⟨_, rfl⟩ ml_12_300 (rest := []) rfl (fun ss hs => ⟨_, _, ay_222 ss hs⟩) (Nat.le_of_ble_eq_true rfl) rfl rfl h (fun r2 V2 hg2 hr2 h => ?_)
  refine ax_bip (pc' := 18) ⟨_, rfl⟩ (by decide) rfl ?_
  refine ax_if2 (p1 := 33) (p2 := 21) ⟨_, rfl⟩ (by decide) rfl hr2 (by decide) (fun hc => ?_) (fun hc => ?_)
  · have h := h.2 hc
    exact h
  · have h := h.1 (Classical.not_not.mp hc)
    refine ax_mv 1 22 [some (.ref 222), some (ax_i x1), some (ax_i x2), some (ax_i 1), none] [ax_i 0] rfl ?_
    refine ax_sti (i := 0) (k := 3) (n := 1) (pc' := 23) (L' := [some (.ref 222), some (ax_i x1), some (ax_i x2), some (ax_i 0), none]) ⟨_, rfl⟩ rfl rfl rfl (Nat.le_of_ble_eq_true rfl) rfl rfl ?_
    refine ax_mv 2 25 [some (.ref 222), some (ax_i x1), some (ax_i x2), some (ax_i 0), none] [.ref 222, .ref 222] rfl ?_
    refine ax_gI (kI := 68) (pc' := 28) ⟨_, rfl⟩ fl_12_294 ay_222 rfl rfl rfl ?_
    refine ax_mv 1 29 [some (.ref 222), some (ax_i x1), some (ax_i x2), some (ax_i 0), none] [ax_i 1, ax_i (V2 222 68), .ref 222] rfl ?_
    refine ax_add (pc' := 30) ⟨_, rfl⟩ rfl ?_
    obtain ⟨o8, h⟩ := h
    obtain ⟨V3, eV3⟩ : ∃ W9 : ax_V, W9 = ax_u V2 222 68 ((V2 222 68) + 1) := ⟨_, rfl⟩
    have h := h V3 eV3
    have hg3 : ax_g V3 := eV3 ▸ ax_u_g hg2 o8
    refine ax_pI (kI := 68) (pc' := 33) ⟨_, rfl⟩ fl_12_294 ay_ok ay_222 rfl rfl rfl rfl eV3 rfl ?_
    exact h
abbrev k_Model_readNumber_16 (d : Nat) (x1 : Int) (V : ax_V) (Φ : Int → ax_V → Prop) (Θ : ax_V → Prop) : Prop := ax_R ay_lay ax_t d m_Model_readNumber 16 [some (.ref 222), some (ax_i x1)] [] V (ax_Ir Φ) Θ
theorem r_Model_readNumber_16 {d : Nat} {V : ax_V} {Φ : Int → ax_V → Prop} {Θ : ax_V → Prop} {x1 : Int} (hg : ax_g V) (hx1 : ax_rg x1) (h : ax_I ay_lay d q_Model_isDigit [.ref 222] V (fun r1 V1 => ((r1 = 0 → ax_I ay_lay d q_Model_isDigit [.ref 222] V1 (fun r2 V2 => ((r2 = 0 → Φ 1 V2) ∧ (¬ r2 = 0 → Φ 0 V2))) Θ) ∧ (¬ r1 = 0 → ((9 ≤ x1 → ax_I ay_lay d q_Model_isDigit [.ref 222] V1 (fun r3 V3 => ((r3 = 0 → Φ 1 V3) ∧ (¬ r3 = 0 → Φ 0 V3))) Θ) ∧ (x1 < 9 → ax_I ay_lay d q_Model_see [.ref 222] V1 (fun r4 V4 => ax_rg (((10 * (V1 222 75)) + r4) - 48) ∧ (∀ V5, V5 = ax_u V4 222 75 (((10 * (V1 222 75)) + r4) - 48) → ax_rg ((V5 222 68) + 1) ∧ (∀ V6, V6 = ax_u V5 222 68 ((V5 222 68) + 1) → k_Model_readNumber_16 d (x1 + 1) V6 Φ Θ))) Θ))))) Θ) : k_Model_readNumber_16 d x1 V Φ Θ := by
  refine ax_mv 1 17 [some (.ref 222), some (ax_i x1)] [.ref 222] rfl ?_
  refine ax_callI (pc' := 20) ⟨_, rfl⟩ ml_12_330 (rest := []) rfl (fun ss hs => ⟨_, _, ay_222 ss hs⟩) (Nat.le_of_ble_eq_true rfl) rfl rfl h (fun r1 V1 hg1 hr1 h => ?_)
  refine ax_if (p1 := 64) (p2 := 23) ⟨_, rfl⟩ (by decide) rfl hr1 (fun hc => ?_) (fun hc => ?_)
  · have h := h.1 hc
    refine ax_mv 1 65 [some (.ref 222), some (ax_i x1)] [.ref 222] rfl ?_
    refine ax_callI (pc' := 68) ⟨_, rfl⟩ ml_12_330 (rest := []) rfl (fun ss hs => ⟨_, _, ay_222 ss hs⟩) (Nat.le_of_ble_eq_true rfl) rfl rfl h (fun r2 V2 hg2 hr2 h => ?_)
    refine ax_if (p1 := 75) (p2 := 71) ⟨_, rfl⟩ (by decide) rfl hr2 (fun hc => ?_) (fun hc => ?_)
    · have h := h.2 hc
      refine ax_mv 1 76 [some (.ref 222), some (ax_i x1)] [ax_i 0] rfl ?_
      exact ax_iret ⟨_, rfl⟩ rfl (ax_nbv (by decide)) (by decide) hg2 h
    · have h := h.1 (Classical.not_not.mp hc)
      refine ax_mv 2 76 [some (.ref 222), some (ax_i x1)] [ax_i 1] rfl ?_
      exact ax_iret ⟨_, rfl⟩ rfl (ax_nbv (by decide)) (by decide) hg2 h
  · have h := h.2 hc
    refine ax_mv 1 24 [some (.ref 222), some (ax_i x1)] [ax_i x1] rfl ?_
    refine ax_bip (pc' := 26) ⟨_, rfl⟩ (by decide) rfl ?_
    refine ax_if2 (p1 := 64) (p2 := 29) ⟨_, rfl⟩ (by decide) rfl hx1 (by decide) (fun hc => ?_) (fun hc => ?_)
    · have h := h.1 hc
      refine ax_mv 1 65 [some (.ref 222), some (ax_i x1)] [.ref 222] rfl ?_
      refine ax_callI (pc' := 68) ⟨_, rfl⟩ ml_12_330 (rest := []) rfl (fun ss hs => ⟨_, _, ay_222 ss hs⟩) (Nat.le_of_ble_eq_true rfl) rfl rfl h (fun r3 V3 hg3 hr3 h => ?_)
      refine ax_if (p1 := 75) (p2 := 71) ⟨_, rfl⟩ (by decide) rfl hr3 (fun hc => ?_) (fun hc => ?_)
      · have h := h.2 hc
        refine ax_mv 1 76 [some (.ref 222), some (ax_i x1)] [ax_i 0] rfl ?_
        exact ax_iret ⟨_, rfl⟩ rfl (ax_nbv (by decide)) (by decide) hg3 h
      · have h := h.1 (Classical.not_not.mp hc)
        refine ax_mv 2 76 [some (.ref 222), some (ax_i x1)] [ax_i 1] rfl ?_
        exact ax_iret ⟨_, rfl⟩ rfl (ax_nbv (by decide)) (by decide) hg3 h
    · have h := h.2 (Int.not_le.mp hc)
      refine ax_mv 1 30 [some (.ref 222), some (ax_i x1)] [.ref 222] rfl ?_
      refine ax_bip (pc' := 32) ⟨_, rfl⟩ (by decide) rfl ?_
      refine ax_mv 1 33 [some (.ref 222), some (ax_i x1)] [.ref 222, ax_i 10, .ref 222] rfl ?_
      refine ax_gI (kI := 75) (pc' := 36) ⟨_, rfl⟩ fl_12_333 ay_222 rfl rfl rfl ?_
      refine ax_mul (pc' := 37) ⟨_, rfl⟩ rfl ?_
      refine ax_mv 1 38 [some (.ref 222), some (ax_i x1)] [.ref 222, ax_i (10 * (V1 222 75)), .ref 222] rfl ?_
      refine ax_callI (pc' := 41) ⟨_, rfl⟩ ml_12_300 (rest := [ax_i (10 * (V1 222 75)), .ref 222]) rfl (fun ss hs => ⟨_, _, ay_222 ss hs⟩) (Nat.le_of_ble_eq_true rfl) rfl rfl h (fun r4 V4 hg4 hr4 h => ?_)
      refine ax_add (pc' := 42) ⟨_, rfl⟩ rfl ?_
      refine ax_bip (pc' := 44) ⟨_, rfl⟩ (by decide) rfl ?_
      refine ax_sub (pc' := 45) ⟨_, rfl⟩ rfl ?_
      obtain ⟨o1, h⟩ := h
      obtain ⟨V5, eV5⟩ : ∃ W9 : ax_V, W9 = ax_u V4 222 75 (((10 * (V1 222 75)) + r4) - 48) := ⟨_, rfl⟩
      have h := h V5 eV5
      have hg5 : ax_g V5 := eV5 ▸ ax_u_g hg4 o1
      refine ax_pI (kI := 75) (pc' := 48) ⟨_, rfl⟩ fl_12_333 ay_ok ay_222 rfl rfl rfl rfl eV5 rfl ?_
      refine ax_mv 2 50 [some (.ref 222), some (ax_i x1)] [.ref 222, .ref 222] rfl ?_
      refine ax_gI (kI := 68) (pc' := 53) ⟨_, rfl⟩ fl_12_294 ay_222 rfl rfl rfl ?_
      refine ax_mv 1 54 [some (.ref 222), some (ax_i x1)] [ax_i 1, ax_i (V5 222 68), .ref 222] rfl ?_
      refine ax_add (pc' := 55) ⟨_, rfl⟩ rfl ?_
      obtain ⟨o2, h⟩ := h
      obtain ⟨V6, eV6⟩ : ∃ W9 : ax_V, W9 = ax_u V5 222 68 ((V5 222 68) + 1) := ⟨_, rfl⟩
      have h := h V6 eV6
      have hg6 : ax_g V6 := eV6 ▸ ax_u_g hg5 o2
      refine ax_pI (kI := 68) (pc' := 58) ⟨_, rfl⟩ fl_12_294 ay_ok ay_222 rfl rfl rfl rfl eV6 rfl ?_
      refine ax_inc (x := x1) (pc' := 61) (L' := [some (.ref 222), some (ax_i (x1 + 1))]) ⟨_, rfl⟩ rfl rfl rfl rfl ?_
      refine ax_mv 1 16 [some (.ref 222), some (ax_i (x1 + 1))] [] rfl ?_
      exact h
theorem r_Model_readNumber {d : Nat} {V : ax_V} {Φ : Int → ax_V → Prop} {Θ : ax_V → Prop} (hg : ax_g V) (h : ax_I ay_lay d q_Model_isDigit [.ref 222] V (fun r1 V1 => ((r1 = 0 → Φ 0 V1) ∧ (¬ r1 = 0 → (∀ V2, V2 = ax_u V1 222 75 0 → k_Model_readNumber_16 d 0 V2 Φ Θ)))) Θ) : ax_I ay_lay (d + 1) q_Model_readNumber [.ref 222] V Φ Θ := by
  refine ax_T.of (M := m_Model_readNumber) rfl (Nat.le_of_ble_eq_true rfl) ?_
  refine ax_mv 0 0 [some (.ref 222), none] [] rfl ?_
  refine ax_mv 1 1 [some (.ref 222), none] [.ref 222] rfl ?_
  refine ax_callI (pc' := 4) ⟨_, rfl⟩ ml_12_330 (rest := []) rfl (fun ss hs => ⟨_, _, ay_222 ss hs⟩) (Nat.le_of_ble_eq_true rfl) rfl rfl h (fun r1 V1 hg1 hr1 h => ?_)
  refine ax_if (p1 := 9) (p2 := 7) ⟨_, rfl⟩ (by decide) rfl hr1 (fun hc => ?_) (fun hc => ?_)
  · have h := h.2 hc
    refine ax_mv 1 10 [some (.ref 222), none] [ax_i 0] rfl ?_
    refine ax_sti (i := 0) (k := 1) (n := 1) (pc' := 11) (L' := [some (.ref 222), some (ax_i 0)]) ⟨_, rfl⟩ rfl rfl rfl (Nat.le_of_ble_eq_true rfl) rfl rfl ?_
    refine ax_mv 2 13 [some (.ref 222), some (ax_i 0)] [ax_i 0, .ref 222] rfl ?_
    obtain ⟨V2, eV2⟩ : ∃ W9 : ax_V, W9 = ax_u V1 222 75 0 := ⟨_, rfl⟩
    have h := h V2 eV2
    have hg2 : ax_g V2 := eV2 ▸ ax_u_g hg1 (by decide)
    refine ax_pI (kI := 75) (pc' := 16) ⟨_, rfl⟩ fl_12_333 ay_ok ay_222 rfl rfl rfl rfl eV2 rfl ?_
    exact h
  · have h := h.1 (Classical.not_not.mp hc)
    refine ax_mv 1 8 [some (.ref 222), none] [ax_i 0] rfl ?_
    exact ax_iret ⟨_, rfl⟩ rfl (ax_nbv (by decide)) (by decide) hg1 h
theorem r_Model_isDigit {d : Nat} {V : ax_V} {Φ : Int → ax_V → Prop} {Θ : ax_V → Prop} (hg : ax_g V) (h : ax_I ay_lay d q_Model_see [.ref 222] V (fun r1 V1 => ax_I ay_lay d q_Model_within [ax_i r1, ax_i 48, ax_i 57] V1 (fun r2 V2 => (r2 = 0 ∨ r2 = 1) ∧ Φ r2 V2) (fun _ => False)) Θ) : ax_I ay_lay (d + 1) q_Model_isDigit [.ref 222] V Φ Θ := by
  refine ax_T.of (M := m_Model_isDigit) rfl (Nat.le_of_ble_eq_true rfl) ?_
  refine ax_mv 0 0 [some (.ref 222)] [] rfl ?_
  refine ax_mv 1 1 [some (.ref 222)] [.ref 222] rfl ?_
  refine ax_callI (pc' := 4) ⟨_, rfl⟩ ml_12_300 (rest := []) rfl (fun ss hs => ⟨_, _, ay_222 ss hs⟩) (Nat.le_of_ble_eq_true rfl) rfl rfl h (fun r1 V1 hg1 hr1 h => ?_)
  refine ax_bip (pc' := 6) ⟨_, rfl⟩ (by decide) rfl ?_
  refine ax_bip (pc' := 8) ⟨_, rfl⟩ (by decide) rfl ?_
  refine ax_callS (pc' := 11) ⟨_, rfl⟩ ml_12_307 (Nat.le_of_ble_eq_true rfl) (Nat.le_of_ble_eq_true rfl) rfl h (fun r2 V2 hg2 hr2 h => ?_)
  refine ax_mv 0 11 [some (.ref 222)] [ax_i r2] rfl ?_
  obtain ⟨o1, h⟩ := h
  exact ax_iret ⟨_, rfl⟩ rfl (ax_nbv o1) hr2 hg2 h
abbrev k_Model_readAutomaton_59 (d : Nat) (x1 : Int) (x2 : Int) (V : ax_V) (Φ : Int → ax_V → Prop) (Θ : ax_V → Prop) : Prop := ax_R ay_lay ax_t d m_Model_readAutomaton 59 [some (.ref 222), some (ax_i x1), some (ax_i x2)] [] V (ax_Ir Φ) Θ
abbrev k_Model_readAutomaton_85 (d : Nat) (x1 : Int) (y2 : Option Value) (V : ax_V) (Φ : Int → ax_V → Prop) (Θ : ax_V → Prop) : Prop := ax_R ay_lay ax_t d m_Model_readAutomaton 85 [some (.ref 222), some (ax_i x1), y2] [] V (ax_Ir Φ) Θ
abbrev k_Model_readAutomaton_108 (d : Nat) (x1 : Int) (y2 : Option Value) (V : ax_V) (Φ : Int → ax_V → Prop) (Θ : ax_V → Prop) : Prop := ax_R ay_lay ax_t d m_Model_readAutomaton 108 [some (.ref 222), some (ax_i x1), y2] [] V (ax_Ir Φ) Θ
set_option maxRecDepth 20000 in
theorem r_Model_readAutomaton_59 {d : Nat} {V : ax_V} {Φ : Int → ax_V → Prop} {Θ : ax_V → Prop} {x1 : Int} {x2 : Int} (hg : ax_g V) (hx1 : ax_rg x1) (hx2 : ax_rg x2) (h : ((x2 = 0 → (∀ V1, V1 = ax_u V 222 70 0 → ax_I ay_lay d q_Model_want [.ref 222, ax_i 59] V1 (fun r2 V2 => (r2 = 0 ∨ r2 = 1) ∧ Φ r2 V2) Θ)) ∧ (¬ x2 = 0 → (0 ≤ x1 ∧ x1 < 351) ∧ ((V 269 x1 = 6 → Φ 0 V) ∧ (¬ V 269 x1 = 6 → ax_I ay_lay d q_Model_want [.ref 222, ax_i 123] V (fun r3 V3 => ((r3 = 0 → Φ 0 V3) ∧ (¬ r3 = 0 → k_Model_readAutomaton_85 d x1 (some (ax_i x2)) V3 Φ Θ))) Θ))))) : k_Model_readAutomaton_59 d x1 x2 V Φ Θ := by
  refine ax_mv 1 60 [some (.ref 222), some (ax_i x1), some (ax_i x2)] [ax_i x2] rfl ?_
  refine ax_if (p1 := 181) (p2 := 63) ⟨_, rfl⟩ (by decide) rfl hx2 (fun hc => ?_) (fun hc => ?_)
  · have h := h.1 hc
    refine ax_mv 2 183 [some (.ref 222), some (ax_i x1), some (ax_i x2)] [ax_i 0, .ref 222] rfl ?_
    obtain ⟨V1, eV1⟩ : ∃ W9 : ax_V, W9 = ax_u V 222 70 0 := ⟨_, rfl⟩
    have h := h V1 eV1
    have hg1 : ax_g V1 := eV1 ▸ ax_u_g hg (by decide)
    refine ax_pI (kI := 70) (pc' := 186) ⟨_, rfl⟩ fl_12_390 ay_ok ay_222 rfl rfl (ax_nbv (by decide)) rfl eV1 rfl ?_
    refine ax_mv 1 187 [some (.ref 222), some (ax_i x1), some (ax_i x2)] [.ref 222] rfl ?_
    refine ax_bip (pc' := 189) ⟨_, rfl⟩ (by decide) rfl ?_
    refine ax_callI (pc' := 192) ⟨_, rfl⟩ ml_12_366 (rest := []) rfl (fun ss hs => ⟨_, _, ay_222 ss hs⟩) (Nat.le_of_ble_eq_true rfl) rfl rfl h (fun r2 V2 hg2 hr2 h => ?_)
    obtain ⟨o1, h⟩ := h
    exact ax_iret ⟨_, rfl⟩ rfl (ax_nbv o1) hr2 hg2 h
  · have h := h.2 hc
    refine ax_mv 1 64 [some (.ref 222), some (ax_i x1), some (ax_i x2)] [.ref 222] rfl ?_
    refine ax_gR (v := .ref 269) (pc' := 67) ⟨_, rfl⟩ fl_12_149 ay_222 rfl rfl ?_
    refine ax_mv 1 68 [some (.ref 222), some (ax_i x1), some (ax_i x2)] [ax_i x1, .ref 269] rfl ?_
    obtain ⟨o2, h⟩ := h
    refine ax_ild (n := 351) (pc' := 69) ⟨_, rfl⟩ ay_269 (by decide) o2 rfl ?_
    refine ax_bip (pc' := 71) ⟨_, rfl⟩ (by decide) rfl ?_
    refine ax_if2 (p1 := 83) (p2 := 74) ⟨_, rfl⟩ (by decide) rfl (hg _ _) (by decide) (fun hc => ?_) (fun hc => ?_)
    · have h := h.1 hc
      refine ax_mv 1 84 [some (.ref 222), some (ax_i x1), some (ax_i x2)] [ax_i 0] rfl ?_
      exact ax_iret ⟨_, rfl⟩ rfl (ax_nbv (by decide)) (by decide) hg h
    · have h := h.2 hc
      refine ax_mv 1 75 [some (.ref 222), some (ax_i x1), some (ax_i x2)] [.ref 222] rfl ?_
      refine ax_bip (pc' := 77) ⟨_, rfl⟩ (by decide) rfl ?_
      refine ax_callI (pc' := 80) ⟨_, rfl⟩ ml_12_366 (rest := []) rfl (fun ss hs => ⟨_, _, ay_222 ss hs⟩) (Nat.le_of_ble_eq_true rfl) rfl rfl h (fun r3 V3 hg3 hr3 h => ?_)
      refine ax_if (p1 := 85) (p2 := 83) ⟨_, rfl⟩ (by decide) rfl hr3 (fun hc => ?_) (fun hc => ?_)
      · have h := h.2 hc
        exact h
      · have h := h.1 (Classical.not_not.mp hc)
        refine ax_mv 1 84 [some (.ref 222), some (ax_i x1), some (ax_i x2)] [ax_i 0] rfl ?_
        exact ax_iret ⟨_, rfl⟩ rfl (ax_nbv (by decide)) (by decide) hg3 h
set_option maxRecDepth 20000 in
theorem r_Model_readAutomaton_85 {d : Nat} {V : ax_V} {Φ : Int → ax_V → Prop} {Θ : ax_V → Prop} {x1 : Int} {y2 : Option Value} (hg : ax_g V) (hx1 : ax_rg x1) (hy2 : ax_y y2) (h : ax_I ay_lay d q_Model_isLetter [.ref 222] V (fun r1 V1 => ((r1 = 0 → k_Model_readAutomaton_108 d x1 y2 V1 Φ Θ) ∧ (¬ r1 = 0 → (0 ≤ x1 ∧ x1 < 351) ∧ ax_I ay_lay d q_Model_readEquation [.ref 222, ax_i x1, ax_i (V1 269 x1)] V1 (fun r2 V2 => ((r2 = 0 → Φ 0 V2) ∧ (¬ r2 = 0 → k_Model_readAutomaton_85 d x1 y2 V2 Φ Θ))) Θ))) Θ) : k_Model_readAutomaton_85 d x1 y2 V Φ Θ := by
  refine ax_mv 1 86 [some (.ref 222), some (ax_i x1), y2] [.ref 222] rfl ?_
  refine ax_callI (pc' := 89) ⟨_, rfl⟩ ml_12_326 (rest := []) rfl (fun ss hs => ⟨_, _, ay_222 ss hs⟩) (Nat.le_of_ble_eq_true rfl) rfl rfl h (fun r1 V1 hg1 hr1 h => ?_)
  refine ax_if (p1 := 108) (p2 := 92) ⟨_, rfl⟩ (by decide) rfl hr1 (fun hc => ?_) (fun hc => ?_)
  · have h := h.1 hc
    exact h
  · have h := h.2 hc
    refine ax_mv 3 95 [some (.ref 222), some (ax_i x1), y2] [.ref 222, ax_i x1, .ref 222] rfl ?_
    refine ax_gR (v := .ref 269) (pc' := 98) ⟨_, rfl⟩ fl_12_149 ay_222 rfl rfl ?_
    refine ax_mv 1 99 [some (.ref 222), some (ax_i x1), y2] [ax_i x1, .ref 269, ax_i x1, .ref 222] rfl ?_
    obtain ⟨o3, h⟩ := h
    refine ax_ild (n := 351) (pc' := 100) ⟨_, rfl⟩ ay_269 (by decide) o3 rfl ?_
    refine ax_callI (pc' := 103) ⟨_, rfl⟩ ml_12_426 (rest := []) rfl (fun ss hs => ⟨_, _, ay_222 ss hs⟩) (Nat.le_of_ble_eq_true rfl) rfl rfl h (fun r2 V2 hg2 hr2 h => ?_)
    refine ax_if (p1 := 85) (p2 := 106) ⟨_, rfl⟩ (by decide) rfl hr2 (fun hc => ?_) (fun hc => ?_)
    · have h := h.2 hc
      exact h
    · have h := h.1 (Classical.not_not.mp hc)
      refine ax_mv 1 107 [some (.ref 222), some (ax_i x1), y2] [ax_i 0] rfl ?_
      exact ax_iret ⟨_, rfl⟩ rfl (ax_nbv (by decide)) (by decide) hg2 h
set_option maxRecDepth 20000 in
theorem r_Model_readAutomaton_108 {d : Nat} {V : ax_V} {Φ : Int → ax_V → Prop} {Θ : ax_V → Prop} {x1 : Int} {y2 : Option Value} (hg : ax_g V) (hx1 : ax_rg x1) (hy2 : ax_y y2) (h : ax_I ay_lay d q_Model_see [.ref 222] V (fun r1 V1 => ((r1 = 33 → (0 ≤ x1 ∧ x1 < 351) ∧ ax_I ay_lay d q_Model_readTransition [.ref 222, ax_i x1, ax_i (V1 269 x1)] V1 (fun r2 V2 => ((r2 = 0 → Φ 0 V2) ∧ (¬ r2 = 0 → k_Model_readAutomaton_108 d x1 y2 V2 Φ Θ))) Θ) ∧ (¬ r1 = 33 → ax_I ay_lay d q_Model_see [.ref 222] V1 (fun r3 V3 => ((r3 = 63 → (0 ≤ x1 ∧ x1 < 351) ∧ ax_I ay_lay d q_Model_readTransition [.ref 222, ax_i x1, ax_i (V3 269 x1)] V3 (fun r7 V7 => ((r7 = 0 → Φ 0 V7) ∧ (¬ r7 = 0 → k_Model_readAutomaton_108 d x1 y2 V7 Φ Θ))) Θ) ∧ (¬ r3 = 63 → ax_I ay_lay d q_Model_want [.ref 222, ax_i 125] V3 (fun r4 V4 => ((r4 = 0 → Φ 0 V4) ∧ (¬ r4 = 0 → (0 ≤ x1 ∧ x1 < 351) ∧ (0 ≤ x1 ∧ x1 < 351) ∧ ax_rg ((V4 269 x1) + 1) ∧ (∀ V5, V5 = ax_u V4 269 x1 ((V4 269 x1) + 1) → ax_I ay_lay d q_Model_see [.ref 222] V5 (fun r6 V6 => ((r6 = 123 → k_Model_readAutomaton_59 d x1 1 V6 Φ Θ) ∧ (¬ r6 = 123 → k_Model_readAutomaton_59 d x1 0 V6 Φ Θ))) Θ)))) Θ))) Θ))) Θ) : k_Model_readAutomaton_108 d x1 y2 V Φ Θ := by
  refine ax_mv 1 109 [some (.ref 222), some (ax_i x1), y2] [.ref 222] rfl ?_
  refine ax_callI (pc' := 112) ⟨_, rfl⟩ ml_12_300 (rest := []) rfl (fun ss hs => ⟨_, _, ay_222 ss hs⟩) (Nat.le_of_ble_eq_true rfl) rfl rfl h (fun r1 V1 hg1 hr1 h => ?_)
  refine ax_bip (pc' := 114) ⟨_, rfl⟩ (by decide) rfl ?_
  refine ax_if2 (p1 := 126) (p2 := 117) ⟨_, rfl⟩ (by decide) rfl hr1 (by decide) (fun hc => ?_) (fun hc => ?_)
  · have h := h.1 hc
    refine ax_mv 3 129 [some (.ref 222), some (ax_i x1), y2] [.ref 222, ax_i x1, .ref 222] rfl ?_
    refine ax_gR (v := .ref 269) (pc' := 132) ⟨_, rfl⟩ fl_12_149 ay_222 rfl rfl ?_
    refine ax_mv 1 133 [some (.ref 222), some (ax_i x1), y2] [ax_i x1, .ref 269, ax_i x1, .ref 222] rfl ?_
    obtain ⟨o4, h⟩ := h
    refine ax_ild (n := 351) (pc' := 134) ⟨_, rfl⟩ ay_269 (by decide) o4 rfl ?_
    refine ax_callI (pc' := 137) ⟨_, rfl⟩ ml_12_430 (rest := []) rfl (fun ss hs => ⟨_, _, ay_222 ss hs⟩) (Nat.le_of_ble_eq_true rfl) rfl rfl h (fun r2 V2 hg2 hr2 h => ?_)
    refine ax_if (p1 := 108) (p2 := 140) ⟨_, rfl⟩ (by decide) rfl hr2 (fun hc => ?_) (fun hc => ?_)
    · have h := h.2 hc
      exact h
    · have h := h.1 (Classical.not_not.mp hc)
      refine ax_mv 1 141 [some (.ref 222), some (ax_i x1), y2] [ax_i 0] rfl ?_
      exact ax_iret ⟨_, rfl⟩ rfl (ax_nbv (by decide)) (by decide) hg2 h
  · have h := h.2 hc
    refine ax_mv 1 118 [some (.ref 222), some (ax_i x1), y2] [.ref 222] rfl ?_
    refine ax_callI (pc' := 121) ⟨_, rfl⟩ ml_12_300 (rest := []) rfl (fun ss hs => ⟨_, _, ay_222 ss hs⟩) (Nat.le_of_ble_eq_true rfl) rfl rfl h (fun r3 V3 hg3 hr3 h => ?_)
    refine ax_bip (pc' := 123) ⟨_, rfl⟩ (by decide) rfl ?_
    refine ax_if2 (p1 := 142) (p2 := 126) ⟨_, rfl⟩ (by decide) rfl hr3 (by decide) (fun hc => ?_) (fun hc => ?_)
    · have h := h.2 hc
      refine ax_mv 1 143 [some (.ref 222), some (ax_i x1), y2] [.ref 222] rfl ?_
      refine ax_bip (pc' := 145) ⟨_, rfl⟩ (by decide) rfl ?_
      refine ax_callI (pc' := 148) ⟨_, rfl⟩ ml_12_366 (rest := []) rfl (fun ss hs => ⟨_, _, ay_222 ss hs⟩) (Nat.le_of_ble_eq_true rfl) rfl rfl h (fun r4 V4 hg4 hr4 h => ?_)
      refine ax_if (p1 := 153) (p2 := 151) ⟨_, rfl⟩ (by decide) rfl hr4 (fun hc => ?_) (fun hc => ?_)
      · have h := h.2 hc
        refine ax_mv 1 154 [some (.ref 222), some (ax_i x1), y2] [.ref 222] rfl ?_
        refine ax_gR (v := .ref 269) (pc' := 157) ⟨_, rfl⟩ fl_12_149 ay_222 rfl rfl ?_
        refine ax_mv 2 159 [some (.ref 222), some (ax_i x1), y2] [ax_i x1, .ref 269, ax_i x1, .ref 269] rfl ?_
        obtain ⟨o5, h⟩ := h
        refine ax_ild (n := 351) (pc' := 160) ⟨_, rfl⟩ ay_269 (by decide) o5 rfl ?_
        refine ax_mv 1 161 [some (.ref 222), some (ax_i x1), y2] [ax_i 1, ax_i (V4 269 x1), ax_i x1, .ref 269] rfl ?_
        refine ax_add (pc' := 162) ⟨_, rfl⟩ rfl ?_
        obtain ⟨o6, o7, h⟩ := h
        obtain ⟨V5, eV5⟩ : ∃ W9 : ax_V, W9 = ax_u V4 269 x1 ((V4 269 x1) + 1) := ⟨_, rfl⟩
        have h := h V5 eV5
        have hg5 : ax_g V5 := eV5 ▸ ax_u_g hg4 o7
        refine ax_ist (n := 351) (pc' := 163) ⟨_, rfl⟩ ay_ok ay_269 (by decide) o6 eV5 rfl ?_
        refine ax_mv 1 164 [some (.ref 222), some (ax_i x1), y2] [.ref 222] rfl ?_
        refine ax_callI (pc' := 167) ⟨_, rfl⟩ ml_12_300 (rest := []) rfl (fun ss hs => ⟨_, _, ay_222 ss hs⟩) (Nat.le_of_ble_eq_true rfl) rfl rfl h (fun r6 V6 hg6 hr6 h => ?_)
        refine ax_bip (pc' := 169) ⟨_, rfl⟩ (by decide) rfl ?_
        refine ax_if2 (p1 := 176) (p2 := 172) ⟨_, rfl⟩ (by decide) rfl hr6 (by decide) (fun hc => ?_) (fun hc => ?_)
        · have h := h.2 hc
          refine ax_mv 1 177 [some (.ref 222), some (ax_i x1), y2] [ax_i 0] rfl ?_
          refine ax_sti (i := 0) (k := 2) (n := 1) (pc' := 178) (L' := [some (.ref 222), some (ax_i x1), some (ax_i 0)]) ⟨_, rfl⟩ rfl rfl rfl (Nat.le_of_ble_eq_true rfl) rfl rfl ?_
          refine ax_mv 1 59 [some (.ref 222), some (ax_i x1), some (ax_i 0)] [] rfl ?_
          exact h
        · have h := h.1 (Classical.not_not.mp hc)
          refine ax_mv 2 177 [some (.ref 222), some (ax_i x1), y2] [ax_i 1] rfl ?_
          refine ax_sti (i := 0) (k := 2) (n := 1) (pc' := 178) (L' := [some (.ref 222), some (ax_i x1), some (ax_i 1)]) ⟨_, rfl⟩ rfl rfl rfl (Nat.le_of_ble_eq_true rfl) rfl rfl ?_
          refine ax_mv 1 59 [some (.ref 222), some (ax_i x1), some (ax_i 1)] [] rfl ?_
          exact h
      · have h := h.1 (Classical.not_not.mp hc)
        refine ax_mv 1 152 [some (.ref 222), some (ax_i x1), y2] [ax_i 0] rfl ?_
        exact ax_iret ⟨_, rfl⟩ rfl (ax_nbv (by decide)) (by decide) hg4 h
    · have h := h.1 (Classical.not_not.mp hc)
      refine ax_mv 3 129 [some (.ref 222), some (ax_i x1), y2] [.ref 222, ax_i x1, .ref 222] rfl ?_
      refine ax_gR (v := .ref 269) (pc' := 132) ⟨_, rfl⟩ fl_12_149 ay_222 rfl rfl ?_
      refine ax_mv 1 133 [some (.ref 222), some (ax_i x1), y2] [ax_i x1, .ref 269, ax_i x1, .ref 222] rfl ?_
      obtain ⟨o8, h⟩ := h
      refine ax_ild (n := 351) (pc' := 134) ⟨_, rfl⟩ ay_269 (by decide) o8 rfl ?_
      refine ax_callI (pc' := 137) ⟨_, rfl⟩ ml_12_430 (rest := []) rfl (fun ss hs => ⟨_, _, ay_222 ss hs⟩) (Nat.le_of_ble_eq_true rfl) rfl rfl h (fun r7 V7 hg7 hr7 h => ?_)
      refine ax_if (p1 := 108) (p2 := 140) ⟨_, rfl⟩ (by decide) rfl hr7 (fun hc => ?_) (fun hc => ?_)
      · have h := h.2 hc
        exact h
      · have h := h.1 (Classical.not_not.mp hc)
        refine ax_mv 1 141 [some (.ref 222), some (ax_i x1), y2] [ax_i 0] rfl ?_
        exact ax_iret ⟨_, rfl⟩ rfl (ax_nbv (by decide)) (by decide) hg7 h
set_option maxRecDepth 20000 in
theorem r_Model_readAutomaton {d : Nat} {V : ax_V} {Φ : Int → ax_V → Prop} {Θ : ax_V → Prop} (hg : ax_g V) (h : (0 ≤ V 222 55 ∧ V 222 55 < 351) ∧ (∀ V1, V1 = ax_u V 267 (V 222 55) (V 222 10) → (0 ≤ V 222 55 ∧ V 222 55 < 351) ∧ (∀ V2, V2 = ax_u V1 268 (V 222 55) (V1 222 68) → (0 ≤ V 222 55 ∧ V 222 55 < 351) ∧ (∀ V3, V3 = ax_u V2 269 (V 222 55) 0 → ax_rg ((V3 222 55) + 1) ∧ (∀ V4, V4 = ax_u V3 222 55 ((V3 222 55) + 1) → ax_rg ((V4 222 68) + 1) ∧ (∀ V5, V5 = ax_u V4 222 68 ((V4 222 68) + 1) → (∀ V6, V6 = ax_u V5 222 70 1 → k_Model_readAutomaton_59 d (V 222 55) 1 V6 Φ Θ))))))) : ax_I ay_lay (d + 1) q_Model_readAutomaton [.ref 222] V Φ Θ := by
  refine ax_T.of (M := m_Model_readAutomaton) rfl (Nat.le_of_ble_eq_true rfl) ?_
  refine ax_mv 0 0 [some (.ref 222), none, none] [] rfl ?_
  refine ax_mv 1 1 [some (.ref 222), none, none] [.ref 222] rfl ?_
  refine ax_gI (kI := 55) (pc' := 4) ⟨_, rfl⟩ fl_12_423 ay_222 rfl rfl rfl ?_
  refine ax_sti (i := 0) (k := 1) (n := 1) (pc' := 5) (L' := [some (.ref 222), some (ax_i (V 222 55)), none]) ⟨_, rfl⟩ rfl rfl rfl (Nat.le_of_ble_eq_true rfl) rfl rfl ?_
  refine ax_mv 1 6 [some (.ref 222), some (ax_i (V 222 55)), none] [.ref 222] rfl ?_
  refine ax_gR (v := .ref 267) (pc' := 9) ⟨_, rfl⟩ fl_12_143 ay_222 rfl rfl ?_
  refine ax_mv 2 11 [some (.ref 222), some (ax_i (V 222 55)), none] [.ref 222, ax_i (V 222 55), .ref 267] rfl ?_
  refine ax_gI (kI := 10) (pc' := 14) ⟨_, rfl⟩ fl_12_320 ay_222 rfl rfl rfl ?_
  obtain ⟨o9, h⟩ := h
  obtain ⟨V1, eV1⟩ : ∃ W9 : ax_V, W9 = ax_u V 267 (V 222 55) (V 222 10) := ⟨_, rfl⟩
  have h := h V1 eV1
  have hg1 : ax_g V1 := eV1 ▸ ax_u_g hg (hg _ _)
  refine ax_ist (n := 351) (pc' := 15) ⟨_, rfl⟩ ay_ok ay_267 (by decide) o9 eV1 rfl ?_
  refine ax_mv 1 16 [some (.ref 222), some (ax_i (V 222 55)), none] [.ref 222] rfl ?_
  refine ax_gR (v := .ref 268) (pc' := 19) ⟨_, rfl⟩ fl_12_146 ay_222 rfl rfl ?_
  refine ax_mv 2 21 [some (.ref 222), some (ax_i (V 222 55)), none] [.ref 222, ax_i (V 222 55), .ref 268] rfl ?_
  refine ax_gI (kI := 68) (pc' := 24) ⟨_, rfl⟩ fl_12_294 ay_222 rfl rfl rfl ?_
  obtain ⟨o10, h⟩ := h
  obtain ⟨V2, eV2⟩ : ∃ W9 : ax_V, W9 = ax_u V1 268 (V 222 55) (V1 222 68) := ⟨_, rfl⟩
  have h := h V2 eV2
  have hg2 : ax_g V2 := eV2 ▸ ax_u_g hg1 (hg1 _ _)
  refine ax_ist (n := 351) (pc' := 25) ⟨_, rfl⟩ ay_ok ay_268 (by decide) o10 eV2 rfl ?_
  refine ax_mv 1 26 [some (.ref 222), some (ax_i (V 222 55)), none] [.ref 222] rfl ?_
  refine ax_gR (v := .ref 269) (pc' := 29) ⟨_, rfl⟩ fl_12_149 ay_222 rfl rfl ?_
  refine ax_mv 2 31 [some (.ref 222), some (ax_i (V 222 55)), none] [ax_i 0, ax_i (V 222 55), .ref 269] rfl ?_
  obtain ⟨o11, h⟩ := h
  obtain ⟨V3, eV3⟩ : ∃ W9 : ax_V, W9 = ax_u V2 269 (V 222 55) 0 := ⟨_, rfl⟩
  have h := h V3 eV3
  have hg3 : ax_g V3 := eV3 ▸ ax_u_g hg2 (by decide)
  refine ax_ist (n := 351) (pc' := 32) ⟨_, rfl⟩ ay_ok ay_269 (by decide) o11 eV3 rfl ?_
  refine ax_mv 2 34 [some (.ref 222), some (ax_i (V 222 55)), none] [.ref 222, .ref 222] rfl ?_
  refine ax_gI (kI := 55) (pc' := 37) ⟨_, rfl⟩ fl_12_423 ay_222 rfl rfl rfl ?_
  refine ax_mv 1 38 [some (.ref 222), some (ax_i (V 222 55)), none] [ax_i 1, ax_i (V3 222 55), .ref 222] rfl ?_
  refine ax_add (pc' := 39) ⟨_, rfl⟩ rfl ?_
  obtain ⟨o12, h⟩ := h
  obtain ⟨V4, eV4⟩ : ∃ W9 : ax_V, W9 = ax_u V3 222 55 ((V3 222 55) + 1) := ⟨_, rfl⟩
  have h := h V4 eV4
  have hg4 : ax_g V4 := eV4 ▸ ax_u_g hg3 o12
  refine ax_pI (kI := 55) (pc' := 42) ⟨_, rfl⟩ fl_12_423 ay_ok ay_222 rfl rfl rfl rfl eV4 rfl ?_
  refine ax_mv 2 44 [some (.ref 222), some (ax_i (V 222 55)), none] [.ref 222, .ref 222] rfl ?_
  refine ax_gI (kI := 68) (pc' := 47) ⟨_, rfl⟩ fl_12_294 ay_222 rfl rfl rfl ?_
  refine ax_mv 1 48 [some (.ref 222), some (ax_i (V 222 55)), none] [ax_i 1, ax_i (V4 222 68), .ref 222] rfl ?_
  refine ax_add (pc' := 49) ⟨_, rfl⟩ rfl ?_
  obtain ⟨o13, h⟩ := h
  obtain ⟨V5, eV5⟩ : ∃ W9 : ax_V, W9 = ax_u V4 222 68 ((V4 222 68) + 1) := ⟨_, rfl⟩
  have h := h V5 eV5
  have hg5 : ax_g V5 := eV5 ▸ ax_u_g hg4 o13
  refine ax_pI (kI := 68) (pc' := 52) ⟨_, rfl⟩ fl_12_294 ay_ok ay_222 rfl rfl rfl rfl eV5 rfl ?_
  refine ax_mv 2 54 [some (.ref 222), some (ax_i (V 222 55)), none] [ax_i 1, .ref 222] rfl ?_
  obtain ⟨V6, eV6⟩ : ∃ W9 : ax_V, W9 = ax_u V5 222 70 1 := ⟨_, rfl⟩
  have h := h V6 eV6
  have hg6 : ax_g V6 := eV6 ▸ ax_u_g hg5 (by decide)
  refine ax_pI (kI := 70) (pc' := 57) ⟨_, rfl⟩ fl_12_390 ay_ok ay_222 rfl rfl (ax_nbv (by decide)) rfl eV6 rfl ?_
  refine ax_mv 1 58 [some (.ref 222), some (ax_i (V 222 55)), none] [ax_i 1] rfl ?_
  refine ax_sti (i := 0) (k := 2) (n := 1) (pc' := 59) (L' := [some (.ref 222), some (ax_i (V 222 55)), some (ax_i 1)]) ⟨_, rfl⟩ rfl rfl rfl (Nat.le_of_ble_eq_true rfl) rfl rfl ?_
  exact h
abbrev k_Model_readEquation_49 (d : Nat) (y1 : Option Value) (y2 : Option Value) (x3 : Int) (x4 : Int) (V : ax_V) (Φ : Int → ax_V → Prop) (Θ : ax_V → Prop) : Prop := ax_R ay_lay ax_t d m_Model_readEquation 49 [some (.ref 222), y1, y2, some (ax_i x3), some (ax_i x4)] [] V (ax_Ir Φ) Θ
set_option maxRecDepth 20000 in
theorem r_Model_readEquation_49 {d : Nat} {V : ax_V} {Φ : Int → ax_V → Prop} {Θ : ax_V → Prop} {y1 : Option Value} {y2 : Option Value} {x3 : Int} {x4 : Int} (hg : ax_g V) (hy1 : ax_y y1) (hy2 : ax_y y2) (hx3 : ax_rg x3) (hx4 : ax_rg x4) (h : ((x4 = 0 → (0 ≤ x3 ∧ x3 < 351) ∧ (∀ V1, V1 = ax_u V 261 x3 (V 222 26) → ax_I ay_lay d q_Model_want [.ref 222, ax_i 61] V1 (fun r2 V2 => ((r2 = 0 → Φ 0 V2) ∧ (¬ r2 = 0 → ax_I ay_lay d q_Model_readX [.ref 222] V2 (fun r3 V3 => ((r3 = 0 → Φ 0 V3) ∧ (¬ r3 = 0 → ax_I ay_lay d q_Model_want [.ref 222, ax_i 59] V3 (fun r4 V4 => ((r4 = 0 → Φ 0 V4) ∧ (¬ r4 = 0 → (0 ≤ x3 ∧ x3 < 351) ∧ (∀ V5, V5 = ax_u V4 262 x3 (V4 222 74) → ax_rg ((V5 222 44) + 1) ∧ (∀ V6, V6 = ax_u V5 222 44 ((V5 222 44) + 1) → Φ 1 V6))))) Θ))) Θ))) Θ)) ∧ (¬ x4 = 0 → (0 ≤ V 222 52 ∧ V 222 52 < 701) ∧ (∀ V7, V7 = ax_u V 266 (V 222 52) (V 222 68) → ax_I ay_lay d q_Model_takeLetter [.ref 222] V7 (fun r8 V8 => (0 ≤ V7 222 52 ∧ V7 222 52 < 701) ∧ (∀ V9, V9 = ax_u V8 265 (V7 222 52) r8 → (0 ≤ V9 222 52 ∧ V9 222 52 < 701) ∧ ((V9 265 (V9 222 52) = -1 → Φ 0 V9) ∧ (¬ V9 265 (V9 222 52) = -1 → ax_rg ((V9 222 52) + 1) ∧ (∀ V10, V10 = ax_u V9 222 52 ((V9 222 52) + 1) → (0 ≤ x3 ∧ x3 < 351) ∧ (0 ≤ x3 ∧ x3 < 351) ∧ ax_rg ((V10 260 x3) + 1) ∧ (∀ V11, V11 = ax_u V10 260 x3 ((V10 260 x3) + 1) → ax_I ay_lay d q_Model_see [.ref 222] V11 (fun r12 V12 => ((r12 = 44 → ax_rg ((V12 222 68) + 1) ∧ (∀ V14, V14 = ax_u V12 222 68 ((V12 222 68) + 1) → k_Model_readEquation_49 d y1 y2 x3 1 V14 Φ Θ)) ∧ (¬ r12 = 44 → ax_rg ((V12 222 68) + 0) ∧ (∀ V13, V13 = ax_u V12 222 68 ((V12 222 68) + 0) → k_Model_readEquation_49 d y1 y2 x3 0 V13 Φ Θ)))) Θ)))))) Θ)))) : k_Model_readEquation_49 d y1 y2 x3 x4 V Φ Θ := by
  refine ax_mv 1 51 [some (.ref 222), y1, y2, some (ax_i x3), some (ax_i x4)] [ax_i x4] rfl ?_
  refine ax_if (p1 := 153) (p2 := 54) ⟨_, rfl⟩ (by decide) rfl hx4 (fun hc => ?_) (fun hc => ?_)
  · have h := h.1 hc
    refine ax_mv 1 154 [some (.ref 222), y1, y2, some (ax_i x3), some (ax_i x4)] [.ref 222] rfl ?_
    refine ax_gR (v := .ref 261) (pc' := 157) ⟨_, rfl⟩ fl_12_125 ay_222 rfl rfl ?_
    refine ax_mv 2 159 [some (.ref 222), y1, y2, some (ax_i x3), some (ax_i x4)] [.ref 222, ax_i x3, .ref 261] rfl ?_
    refine ax_gI (kI := 26) (pc' := 162) ⟨_, rfl⟩ fl_12_317 ay_222 rfl rfl rfl ?_
    obtain ⟨o1, h⟩ := h
    obtain ⟨V1, eV1⟩ : ∃ W9 : ax_V, W9 = ax_u V 261 x3 (V 222 26) := ⟨_, rfl⟩
    have h := h V1 eV1
    have hg1 : ax_g V1 := eV1 ▸ ax_u_g hg (hg _ _)
    refine ax_ist (n := 351) (pc' := 163) ⟨_, rfl⟩ ay_ok ay_261 (by decide) o1 eV1 rfl ?_
    refine ax_mv 1 164 [some (.ref 222), y1, y2, some (ax_i x3), some (ax_i x4)] [.ref 222] rfl ?_
    refine ax_bip (pc' := 166) ⟨_, rfl⟩ (by decide) rfl ?_
    refine ax_callI (pc' := 169) ⟨_, rfl⟩ ml_12_366 (rest := []) rfl (fun ss hs => ⟨_, _, ay_222 ss hs⟩) (Nat.le_of_ble_eq_true rfl) rfl rfl h (fun r2 V2 hg2 hr2 h => ?_)
    refine ax_if (p1 := 188) (p2 := 172) ⟨_, rfl⟩ (by decide) rfl hr2 (fun hc => ?_) (fun hc => ?_)
    · have h := h.1 hc
      refine ax_mv 1 189 [some (.ref 222), y1, y2, some (ax_i x3), some (ax_i x4)] [ax_i 0] rfl ?_
      exact ax_iret ⟨_, rfl⟩ rfl (ax_nbv (by decide)) (by decide) hg2 h
    · have h := h.2 hc
      refine ax_mv 1 173 [some (.ref 222), y1, y2, some (ax_i x3), some (ax_i x4)] [.ref 222] rfl ?_
      refine ax_callI (pc' := 176) ⟨_, rfl⟩ ml_12_353 (rest := []) rfl (fun ss hs => ⟨_, _, ay_222 ss hs⟩) (Nat.le_of_ble_eq_true rfl) rfl rfl h (fun r3 V3 hg3 hr3 h => ?_)
      refine ax_if (p1 := 188) (p2 := 179) ⟨_, rfl⟩ (by decide) rfl hr3 (fun hc => ?_) (fun hc => ?_)
      · have h := h.1 hc
        refine ax_mv 1 189 [some (.ref 222), y1, y2, some (ax_i x3), some (ax_i x4)] [ax_i 0] rfl ?_
        exact ax_iret ⟨_, rfl⟩ rfl (ax_nbv (by decide)) (by decide) hg3 h
      · have h := h.2 hc
        refine ax_mv 1 180 [some (.ref 222), y1, y2, some (ax_i x3), some (ax_i x4)] [.ref 222] rfl ?_
        refine ax_bip (pc' := 182) ⟨_, rfl⟩ (by decide) rfl ?_
        refine ax_callI (pc' := 185) ⟨_, rfl⟩ ml_12_366 (rest := []) rfl (fun ss hs => ⟨_, _, ay_222 ss hs⟩) (Nat.le_of_ble_eq_true rfl) rfl rfl h (fun r4 V4 hg4 hr4 h => ?_)
        refine ax_if (p1 := 190) (p2 := 188) ⟨_, rfl⟩ (by decide) rfl hr4 (fun hc => ?_) (fun hc => ?_)
        · have h := h.2 hc
          refine ax_mv 1 191 [some (.ref 222), y1, y2, some (ax_i x3), some (ax_i x4)] [.ref 222] rfl ?_
          refine ax_gR (v := .ref 262) (pc' := 194) ⟨_, rfl⟩ fl_12_128 ay_222 rfl rfl ?_
          refine ax_mv 2 196 [some (.ref 222), y1, y2, some (ax_i x3), some (ax_i x4)] [.ref 222, ax_i x3, .ref 262] rfl ?_
          refine ax_gI (kI := 74) (pc' := 199) ⟨_, rfl⟩ fl_12_323 ay_222 rfl rfl rfl ?_
          obtain ⟨o2, h⟩ := h
          obtain ⟨V5, eV5⟩ : ∃ W9 : ax_V, W9 = ax_u V4 262 x3 (V4 222 74) := ⟨_, rfl⟩
          have h := h V5 eV5
          have hg5 : ax_g V5 := eV5 ▸ ax_u_g hg4 (hg4 _ _)
          refine ax_ist (n := 351) (pc' := 200) ⟨_, rfl⟩ ay_ok ay_262 (by decide) o2 eV5 rfl ?_
          refine ax_mv 2 202 [some (.ref 222), y1, y2, some (ax_i x3), some (ax_i x4)] [.ref 222, .ref 222] rfl ?_
          refine ax_gI (kI := 44) (pc' := 205) ⟨_, rfl⟩ fl_12_414 ay_222 rfl rfl rfl ?_
          refine ax_mv 1 206 [some (.ref 222), y1, y2, some (ax_i x3), some (ax_i x4)] [ax_i 1, ax_i (V5 222 44), .ref 222] rfl ?_
          refine ax_add (pc' := 207) ⟨_, rfl⟩ rfl ?_
          obtain ⟨o3, h⟩ := h
          obtain ⟨V6, eV6⟩ : ∃ W9 : ax_V, W9 = ax_u V5 222 44 ((V5 222 44) + 1) := ⟨_, rfl⟩
          have h := h V6 eV6
          have hg6 : ax_g V6 := eV6 ▸ ax_u_g hg5 o3
          refine ax_pI (kI := 44) (pc' := 210) ⟨_, rfl⟩ fl_12_414 ay_ok ay_222 rfl rfl rfl rfl eV6 rfl ?_
          refine ax_mv 1 211 [some (.ref 222), y1, y2, some (ax_i x3), some (ax_i x4)] [ax_i 1] rfl ?_
          exact ax_iret ⟨_, rfl⟩ rfl (ax_nbv (by decide)) (by decide) hg6 h
        · have h := h.1 (Classical.not_not.mp hc)
          refine ax_mv 1 189 [some (.ref 222), y1, y2, some (ax_i x3), some (ax_i x4)] [ax_i 0] rfl ?_
          exact ax_iret ⟨_, rfl⟩ rfl (ax_nbv (by decide)) (by decide) hg4 h
  · have h := h.2 hc
    refine ax_mv 1 55 [some (.ref 222), y1, y2, some (ax_i x3), some (ax_i x4)] [.ref 222] rfl ?_
    refine ax_gR (v := .ref 266) (pc' := 58) ⟨_, rfl⟩ fl_12_140 ay_222 rfl rfl ?_
    refine ax_mv 1 59 [some (.ref 222), y1, y2, some (ax_i x3), some (ax_i x4)] [.ref 222, .ref 266] rfl ?_
    refine ax_gI (kI := 52) (pc' := 62) ⟨_, rfl⟩ fl_12_417 ay_222 rfl rfl rfl ?_
    refine ax_mv 1 63 [some (.ref 222), y1, y2, some (ax_i x3), some (ax_i x4)] [.ref 222, ax_i (V 222 52), .ref 266] rfl ?_
    refine ax_gI (kI := 68) (pc' := 66) ⟨_, rfl⟩ fl_12_294 ay_222 rfl rfl rfl ?_
    obtain ⟨o4, h⟩ := h
    obtain ⟨V7, eV7⟩ : ∃ W9 : ax_V, W9 = ax_u V 266 (V 222 52) (V 222 68) := ⟨_, rfl⟩
    have h := h V7 eV7
    have hg7 : ax_g V7 := eV7 ▸ ax_u_g hg (hg _ _)
    refine ax_ist (n := 701) (pc' := 67) ⟨_, rfl⟩ ay_ok ay_266 (by decide) o4 eV7 rfl ?_
    refine ax_mv 1 68 [some (.ref 222), y1, y2, some (ax_i x3), some (ax_i x4)] [.ref 222] rfl ?_
    refine ax_gR (v := .ref 265) (pc' := 71) ⟨_, rfl⟩ fl_12_137 ay_222 rfl rfl ?_
    refine ax_mv 1 72 [some (.ref 222), y1, y2, some (ax_i x3), some (ax_i x4)] [.ref 222, .ref 265] rfl ?_
    refine ax_gI (kI := 52) (pc' := 75) ⟨_, rfl⟩ fl_12_417 ay_222 rfl rfl rfl ?_
    refine ax_mv 1 76 [some (.ref 222), y1, y2, some (ax_i x3), some (ax_i x4)] [.ref 222, ax_i (V7 222 52), .ref 265] rfl ?_
    refine ax_callI (pc' := 79) ⟨_, rfl⟩ ml_12_393 (rest := [ax_i (V7 222 52), .ref 265]) rfl (fun ss hs => ⟨_, _, ay_222 ss hs⟩) (Nat.le_of_ble_eq_true rfl) rfl rfl h (fun r8 V8 hg8 hr8 h => ?_)
    obtain ⟨o5, h⟩ := h
    obtain ⟨V9, eV9⟩ : ∃ W9 : ax_V, W9 = ax_u V8 265 (V7 222 52) r8 := ⟨_, rfl⟩
    have h := h V9 eV9
    have hg9 : ax_g V9 := eV9 ▸ ax_u_g hg8 hr8
    refine ax_ist (n := 701) (pc' := 80) ⟨_, rfl⟩ ay_ok ay_265 (by decide) o5 eV9 rfl ?_
    refine ax_mv 1 81 [some (.ref 222), y1, y2, some (ax_i x3), some (ax_i x4)] [.ref 222] rfl ?_
    refine ax_gR (v := .ref 265) (pc' := 84) ⟨_, rfl⟩ fl_12_137 ay_222 rfl rfl ?_
    refine ax_mv 1 85 [some (.ref 222), y1, y2, some (ax_i x3), some (ax_i x4)] [.ref 222, .ref 265] rfl ?_
    refine ax_gI (kI := 52) (pc' := 88) ⟨_, rfl⟩ fl_12_417 ay_222 rfl rfl rfl ?_
    obtain ⟨o6, h⟩ := h
    refine ax_ild (n := 701) (pc' := 89) ⟨_, rfl⟩ ay_265 (by decide) o6 rfl ?_
    refine ax_mv 1 90 [some (.ref 222), y1, y2, some (ax_i x3), some (ax_i x4)] [ax_i (-1), ax_i (V9 265 (V9 222 52))] rfl ?_
    refine ax_if2 (p1 := 95) (p2 := 93) ⟨_, rfl⟩ (by decide) rfl (hg9 _ _) (by decide) (fun hc => ?_) (fun hc => ?_)
    · have h := h.2 hc
      refine ax_mv 2 97 [some (.ref 222), y1, y2, some (ax_i x3), some (ax_i x4)] [.ref 222, .ref 222] rfl ?_
      refine ax_gI (kI := 52) (pc' := 100) ⟨_, rfl⟩ fl_12_417 ay_222 rfl rfl rfl ?_
      refine ax_mv 1 101 [some (.ref 222), y1, y2, some (ax_i x3), some (ax_i x4)] [ax_i 1, ax_i (V9 222 52), .ref 222] rfl ?_
      refine ax_add (pc' := 102) ⟨_, rfl⟩ rfl ?_
      obtain ⟨o7, h⟩ := h
      obtain ⟨V10, eV10⟩ : ∃ W9 : ax_V, W9 = ax_u V9 222 52 ((V9 222 52) + 1) := ⟨_, rfl⟩
      have h := h V10 eV10
      have hg10 : ax_g V10 := eV10 ▸ ax_u_g hg9 o7
      refine ax_pI (kI := 52) (pc' := 105) ⟨_, rfl⟩ fl_12_417 ay_ok ay_222 rfl rfl rfl rfl eV10 rfl ?_
      refine ax_mv 1 106 [some (.ref 222), y1, y2, some (ax_i x3), some (ax_i x4)] [.ref 222] rfl ?_
      refine ax_gR (v := .ref 260) (pc' := 109) ⟨_, rfl⟩ fl_12_122 ay_222 rfl rfl ?_
      refine ax_mv 2 111 [some (.ref 222), y1, y2, some (ax_i x3), some (ax_i x4)] [ax_i x3, .ref 260, ax_i x3, .ref 260] rfl ?_
      obtain ⟨o8, h⟩ := h
      refine ax_ild (n := 351) (pc' := 112) ⟨_, rfl⟩ ay_260 (by decide) o8 rfl ?_
      refine ax_mv 1 113 [some (.ref 222), y1, y2, some (ax_i x3), some (ax_i x4)] [ax_i 1, ax_i (V10 260 x3), ax_i x3, .ref 260] rfl ?_
      refine ax_add (pc' := 114) ⟨_, rfl⟩ rfl ?_
      obtain ⟨o9, o10, h⟩ := h
      obtain ⟨V11, eV11⟩ : ∃ W9 : ax_V, W9 = ax_u V10 260 x3 ((V10 260 x3) + 1) := ⟨_, rfl⟩
      have h := h V11 eV11
      have hg11 : ax_g V11 := eV11 ▸ ax_u_g hg10 o10
      refine ax_ist (n := 351) (pc' := 115) ⟨_, rfl⟩ ay_ok ay_260 (by decide) o9 eV11 rfl ?_
      refine ax_mv 1 116 [some (.ref 222), y1, y2, some (ax_i x3), some (ax_i x4)] [.ref 222] rfl ?_
      refine ax_callI (pc' := 119) ⟨_, rfl⟩ ml_12_300 (rest := []) rfl (fun ss hs => ⟨_, _, ay_222 ss hs⟩) (Nat.le_of_ble_eq_true rfl) rfl rfl h (fun r12 V12 hg12 hr12 h => ?_)
      refine ax_bip (pc' := 121) ⟨_, rfl⟩ (by decide) rfl ?_
      refine ax_if2 (p1 := 128) (p2 := 124) ⟨_, rfl⟩ (by decide) rfl hr12 (by decide) (fun hc => ?_) (fun hc => ?_)
      · have h := h.2 hc
        refine ax_mv 1 129 [some (.ref 222), y1, y2, some (ax_i x3), some (ax_i x4)] [ax_i 0] rfl ?_
        refine ax_sti (i := 0) (k := 4) (n := 2) (pc' := 131) (L' := [some (.ref 222), y1, y2, some (ax_i x3), some (ax_i 0)]) ⟨_, rfl⟩ rfl rfl rfl (Nat.le_of_ble_eq_true rfl) rfl rfl ?_
        refine ax_mv 2 133 [some (.ref 222), y1, y2, some (ax_i x3), some (ax_i 0)] [.ref 222, .ref 222] rfl ?_
        refine ax_gI (kI := 68) (pc' := 136) ⟨_, rfl⟩ fl_12_294 ay_222 rfl rfl rfl ?_
        refine ax_mv 1 138 [some (.ref 222), y1, y2, some (ax_i x3), some (ax_i 0)] [ax_i 0, ax_i (V12 222 68), .ref 222] rfl ?_
        refine ax_if (p1 := 145) (p2 := 141) ⟨_, rfl⟩ (by decide) rfl (by decide) (fun _ => ?_) (fun hc => absurd (by unfold ax_k0; decide) hc)
        refine ax_mv 1 146 [some (.ref 222), y1, y2, some (ax_i x3), some (ax_i 0)] [ax_i 0, ax_i (V12 222 68), .ref 222] rfl ?_
        refine ax_add (pc' := 147) ⟨_, rfl⟩ rfl ?_
        obtain ⟨o11, h⟩ := h
        obtain ⟨V13, eV13⟩ : ∃ W9 : ax_V, W9 = ax_u V12 222 68 ((V12 222 68) + 0) := ⟨_, rfl⟩
        have h := h V13 eV13
        have hg13 : ax_g V13 := eV13 ▸ ax_u_g hg12 o11
        refine ax_pI (kI := 68) (pc' := 150) ⟨_, rfl⟩ fl_12_294 ay_ok ay_222 rfl rfl rfl rfl eV13 rfl ?_
        refine ax_mv 1 49 [some (.ref 222), y1, y2, some (ax_i x3), some (ax_i 0)] [] rfl ?_
        exact h
      · have h := h.1 (Classical.not_not.mp hc)
        refine ax_mv 2 129 [some (.ref 222), y1, y2, some (ax_i x3), some (ax_i x4)] [ax_i 1] rfl ?_
        refine ax_sti (i := 0) (k := 4) (n := 2) (pc' := 131) (L' := [some (.ref 222), y1, y2, some (ax_i x3), some (ax_i 1)]) ⟨_, rfl⟩ rfl rfl rfl (Nat.le_of_ble_eq_true rfl) rfl rfl ?_
        refine ax_mv 2 133 [some (.ref 222), y1, y2, some (ax_i x3), some (ax_i 1)] [.ref 222, .ref 222] rfl ?_
        refine ax_gI (kI := 68) (pc' := 136) ⟨_, rfl⟩ fl_12_294 ay_222 rfl rfl rfl ?_
        refine ax_mv 1 138 [some (.ref 222), y1, y2, some (ax_i x3), some (ax_i 1)] [ax_i 1, ax_i (V12 222 68), .ref 222] rfl ?_
        refine ax_if (p1 := 145) (p2 := 141) ⟨_, rfl⟩ (by decide) rfl (by decide) (fun hc => absurd hc (by unfold ax_k0; decide)) (fun _ => ?_)
        refine ax_mv 2 146 [some (.ref 222), y1, y2, some (ax_i x3), some (ax_i 1)] [ax_i 1, ax_i (V12 222 68), .ref 222] rfl ?_
        refine ax_add (pc' := 147) ⟨_, rfl⟩ rfl ?_
        obtain ⟨o12, h⟩ := h
        obtain ⟨V14, eV14⟩ : ∃ W9 : ax_V, W9 = ax_u V12 222 68 ((V12 222 68) + 1) := ⟨_, rfl⟩
        have h := h V14 eV14
        have hg14 : ax_g V14 := eV14 ▸ ax_u_g hg12 o12
        refine ax_pI (kI := 68) (pc' := 150) ⟨_, rfl⟩ fl_12_294 ay_ok ay_222 rfl rfl rfl rfl eV14 rfl ?_
        refine ax_mv 1 49 [some (.ref 222), y1, y2, some (ax_i x3), some (ax_i 1)] [] rfl ?_
        exact h
    · have h := h.1 (Classical.not_not.mp hc)
      refine ax_mv 1 94 [some (.ref 222), y1, y2, some (ax_i x3), some (ax_i x4)] [ax_i 0] rfl ?_
      exact ax_iret ⟨_, rfl⟩ rfl (ax_nbv (by decide)) (by decide) hg9 h
set_option maxRecDepth 20000 in
theorem r_Model_readEquation {d : Nat} {V : ax_V} {Φ : Int → ax_V → Prop} {Θ : ax_V → Prop} {x1 : Int} {x2 : Int} (hg : ax_g V) (hx1 : ax_rg x1) (hx2 : ax_rg x2) (h : (0 ≤ V 222 44 ∧ V 222 44 < 351) ∧ (∀ V1, V1 = ax_u V 258 (V 222 44) (V 222 10) → (0 ≤ V 222 44 ∧ V 222 44 < 351) ∧ (∀ V2, V2 = ax_u V1 259 (V 222 44) (V1 222 52) → (0 ≤ V 222 44 ∧ V 222 44 < 351) ∧ (∀ V3, V3 = ax_u V2 260 (V 222 44) 0 → (0 ≤ V 222 44 ∧ V 222 44 < 351) ∧ (∀ V4, V4 = ax_u V3 263 (V 222 44) x1 → (0 ≤ V 222 44 ∧ V 222 44 < 351) ∧ (∀ V5, V5 = ax_u V4 264 (V 222 44) x2 → k_Model_readEquation_49 d (some (ax_i x1)) (some (ax_i x2)) (V 222 44) 1 V5 Φ Θ)))))) : ax_I ay_lay (d + 1) q_Model_readEquation [.ref 222, ax_i x1, ax_i x2] V Φ Θ := by
  refine ax_T.of (M := m_Model_readEquation) rfl (Nat.le_of_ble_eq_true rfl) ?_
  refine ax_mv 0 0 [some (.ref 222), some (ax_i x1), some (ax_i x2), none, none] [] rfl ?_
  refine ax_mv 1 1 [some (.ref 222), some (ax_i x1), some (ax_i x2), none, none] [.ref 222] rfl ?_
  refine ax_gI (kI := 44) (pc' := 4) ⟨_, rfl⟩ fl_12_414 ay_222 rfl rfl rfl ?_
  refine ax_sti (i := 0) (k := 3) (n := 1) (pc' := 5) (L' := [some (.ref 222), some (ax_i x1), some (ax_i x2), some (ax_i (V 222 44)), none]) ⟨_, rfl⟩ rfl rfl rfl (Nat.le_of_ble_eq_true rfl) rfl rfl ?_
  refine ax_mv 1 6 [some (.ref 222), some (ax_i x1), some (ax_i x2), some (ax_i (V 222 44)), none] [.ref 222] rfl ?_
  refine ax_gR (v := .ref 258) (pc' := 9) ⟨_, rfl⟩ fl_12_116 ay_222 rfl rfl ?_
  refine ax_mv 2 11 [some (.ref 222), some (ax_i x1), some (ax_i x2), some (ax_i (V 222 44)), none] [.ref 222, ax_i (V 222 44), .ref 258] rfl ?_
  refine ax_gI (kI := 10) (pc' := 14) ⟨_, rfl⟩ fl_12_320 ay_222 rfl rfl rfl ?_
  obtain ⟨o13, h⟩ := h
  obtain ⟨V1, eV1⟩ : ∃ W9 : ax_V, W9 = ax_u V 258 (V 222 44) (V 222 10) := ⟨_, rfl⟩
  have h := h V1 eV1
  have hg1 : ax_g V1 := eV1 ▸ ax_u_g hg (hg _ _)
  refine ax_ist (n := 351) (pc' := 15) ⟨_, rfl⟩ ay_ok ay_258 (by decide) o13 eV1 rfl ?_
  refine ax_mv 1 16 [some (.ref 222), some (ax_i x1), some (ax_i x2), some (ax_i (V 222 44)), none] [.ref 222] rfl ?_
  refine ax_gR (v := .ref 259) (pc' := 19) ⟨_, rfl⟩ fl_12_119 ay_222 rfl rfl ?_
  refine ax_mv 2 21 [some (.ref 222), some (ax_i x1), some (ax_i x2), some (ax_i (V 222 44)), none] [.ref 222, ax_i (V 222 44), .ref 259] rfl ?_
  refine ax_gI (kI := 52) (pc' := 24) ⟨_, rfl⟩ fl_12_417 ay_222 rfl rfl rfl ?_
  obtain ⟨o14, h⟩ := h
  obtain ⟨V2, eV2⟩ : ∃ W9 : ax_V, W9 = ax_u V1 259 (V 222 44) (V1 222 52) := ⟨_, rfl⟩
  have h := h V2 eV2
  have hg2 : ax_g V2 := eV2 ▸ ax_u_g hg1 (hg1 _ _)
  refine ax_ist (n := 351) (pc' := 25) ⟨_, rfl⟩ ay_ok ay_259 (by decide) o14 eV2 rfl ?_
  refine ax_mv 1 26 [some (.ref 222), some (ax_i x1), some (ax_i x2), some (ax_i (V 222 44)), none] [.ref 222] rfl ?_
  refine ax_gR (v := .ref 260) (pc' := 29) ⟨_, rfl⟩ fl_12_122 ay_222 rfl rfl ?_
  refine ax_mv 2 31 [some (.ref 222), some (ax_i x1), some (ax_i x2), some (ax_i (V 222 44)), none] [ax_i 0, ax_i (V 222 44), .ref 260] rfl ?_
  obtain ⟨o15, h⟩ := h
  obtain ⟨V3, eV3⟩ : ∃ W9 : ax_V, W9 = ax_u V2 260 (V 222 44) 0 := ⟨_, rfl⟩
  have h := h V3 eV3
  have hg3 : ax_g V3 := eV3 ▸ ax_u_g hg2 (by decide)
  refine ax_ist (n := 351) (pc' := 32) ⟨_, rfl⟩ ay_ok ay_260 (by decide) o15 eV3 rfl ?_
  refine ax_mv 1 33 [some (.ref 222), some (ax_i x1), some (ax_i x2), some (ax_i (V 222 44)), none] [.ref 222] rfl ?_
  refine ax_gR (v := .ref 263) (pc' := 36) ⟨_, rfl⟩ fl_12_131 ay_222 rfl rfl ?_
  refine ax_mv 2 38 [some (.ref 222), some (ax_i x1), some (ax_i x2), some (ax_i (V 222 44)), none] [ax_i x1, ax_i (V 222 44), .ref 263] rfl ?_
  obtain ⟨o16, h⟩ := h
  obtain ⟨V4, eV4⟩ : ∃ W9 : ax_V, W9 = ax_u V3 263 (V 222 44) x1 := ⟨_, rfl⟩
  have h := h V4 eV4
  have hg4 : ax_g V4 := eV4 ▸ ax_u_g hg3 hx1
  refine ax_ist (n := 351) (pc' := 39) ⟨_, rfl⟩ ay_ok ay_263 (by decide) o16 eV4 rfl ?_
  refine ax_mv 1 40 [some (.ref 222), some (ax_i x1), some (ax_i x2), some (ax_i (V 222 44)), none] [.ref 222] rfl ?_
  refine ax_gR (v := .ref 264) (pc' := 43) ⟨_, rfl⟩ fl_12_134 ay_222 rfl rfl ?_
  refine ax_mv 2 45 [some (.ref 222), some (ax_i x1), some (ax_i x2), some (ax_i (V 222 44)), none] [ax_i x2, ax_i (V 222 44), .ref 264] rfl ?_
  obtain ⟨o17, h⟩ := h
  obtain ⟨V5, eV5⟩ : ∃ W9 : ax_V, W9 = ax_u V4 264 (V 222 44) x2 := ⟨_, rfl⟩
  have h := h V5 eV5
  have hg5 : ax_g V5 := eV5 ▸ ax_u_g hg4 hx2
  refine ax_ist (n := 351) (pc' := 46) ⟨_, rfl⟩ ay_ok ay_264 (by decide) o17 eV5 rfl ?_
  refine ax_mv 1 47 [some (.ref 222), some (ax_i x1), some (ax_i x2), some (ax_i (V 222 44)), none] [ax_i 1] rfl ?_
  refine ax_sti (i := 0) (k := 4) (n := 2) (pc' := 49) (L' := [some (.ref 222), some (ax_i x1), some (ax_i x2), some (ax_i (V 222 44)), some (ax_i 1)]) ⟨_, rfl⟩ rfl rfl rfl (Nat.le_of_ble_eq_true rfl) rfl rfl ?_
  exact h
theorem r_Model_readX {d : Nat} {V : ax_V} {Φ : Int → ax_V → Prop} {Θ : ax_V → Prop} (hg : ax_g V) (h : ax_I ay_lay d q_Model_readC [.ref 222] V (fun r1 V1 => ((r1 = 0 → Φ 0 V1) ∧ (¬ r1 = 0 → ax_I ay_lay d q_Model_isArrow [.ref 222] V1 (fun r2 V2 => ((r2 = 0 → Φ 1 V2) ∧ (¬ r2 = 0 → ax_I ay_lay d q_Model_readArrow [.ref 222] V2 (fun r3 V3 => ((r3 = 0 → Φ 0 V3) ∧ (¬ r3 = 0 → Φ 1 V3))) Θ))) Θ))) Θ) : ax_I ay_lay (d + 1) q_Model_readX [.ref 222] V Φ Θ := by
  refine ax_T.of (M := m_Model_readX) rfl (Nat.le_of_ble_eq_true rfl) ?_
  refine ax_mv 0 0 [some (.ref 222)] [] rfl ?_
  refine ax_mv 1 1 [some (.ref 222)] [.ref 222] rfl ?_
  refine ax_callI (pc' := 4) ⟨_, rfl⟩ ml_12_336 (rest := []) rfl (fun ss hs => ⟨_, _, ay_222 ss hs⟩) (Nat.le_of_ble_eq_true rfl) rfl rfl h (fun r1 V1 hg1 hr1 h => ?_)
  refine ax_if (p1 := 25) (p2 := 7) ⟨_, rfl⟩ (by decide) rfl hr1 (fun hc => ?_) (fun hc => ?_)
  · have h := h.1 hc
    refine ax_mv 1 26 [some (.ref 222)] [ax_i 0] rfl ?_
    exact ax_iret ⟨_, rfl⟩ rfl (ax_nbv (by decide)) (by decide) hg1 h
  · have h := h.2 hc
    refine ax_mv 1 8 [some (.ref 222)] [.ref 222] rfl ?_
    refine ax_callI (pc' := 11) ⟨_, rfl⟩ ml_12_339 (rest := []) rfl (fun ss hs => ⟨_, _, ay_222 ss hs⟩) (Nat.le_of_ble_eq_true rfl) rfl rfl h (fun r2 V2 hg2 hr2 h => ?_)
    refine ax_if (p1 := 21) (p2 := 14) ⟨_, rfl⟩ (by decide) rfl hr2 (fun hc => ?_) (fun hc => ?_)
    · have h := h.1 hc
      refine ax_mv 2 26 [some (.ref 222)] [ax_i 1] rfl ?_
      exact ax_iret ⟨_, rfl⟩ rfl (ax_nbv (by decide)) (by decide) hg2 h
    · have h := h.2 hc
      refine ax_mv 1 15 [some (.ref 222)] [.ref 222] rfl ?_
      refine ax_callI (pc' := 18) ⟨_, rfl⟩ ml_12_342 (rest := []) rfl (fun ss hs => ⟨_, _, ay_222 ss hs⟩) (Nat.le_of_ble_eq_true rfl) rfl rfl h (fun r3 V3 hg3 hr3 h => ?_)
      refine ax_if (p1 := 25) (p2 := 21) ⟨_, rfl⟩ (by decide) rfl hr3 (fun hc => ?_) (fun hc => ?_)
      · have h := h.1 hc
        refine ax_mv 1 26 [some (.ref 222)] [ax_i 0] rfl ?_
        exact ax_iret ⟨_, rfl⟩ rfl (ax_nbv (by decide)) (by decide) hg3 h
      · have h := h.2 hc
        refine ax_mv 2 26 [some (.ref 222)] [ax_i 1] rfl ?_
        exact ax_iret ⟨_, rfl⟩ rfl (ax_nbv (by decide)) (by decide) hg3 h
theorem r_Model_readC {d : Nat} {V : ax_V} {Φ : Int → ax_V → Prop} {Θ : ax_V → Prop} (hg : ax_g V) (h : ax_I ay_lay d q_Model_readD [.ref 222] V (fun r1 V1 => ((r1 = 0 → Φ 0 V1) ∧ (¬ r1 = 0 → ax_I ay_lay d q_Model_see [.ref 222] V1 (fun r2 V2 => ((r2 = 63 → ax_I ay_lay d q_Model_readChoice [.ref 222] V2 (fun r3 V3 => ((r3 = 0 → Φ 0 V3) ∧ (¬ r3 = 0 → Φ 1 V3))) Θ) ∧ (¬ r2 = 63 → Φ 1 V2))) Θ))) Θ) : ax_I ay_lay (d + 1) q_Model_readC [.ref 222] V Φ Θ := by
  refine ax_T.of (M := m_Model_readC) rfl (Nat.le_of_ble_eq_true rfl) ?_
  refine ax_mv 0 0 [some (.ref 222)] [] rfl ?_
  refine ax_mv 1 1 [some (.ref 222)] [.ref 222] rfl ?_
  refine ax_callI (pc' := 4) ⟨_, rfl⟩ ml_12_360 (rest := []) rfl (fun ss hs => ⟨_, _, ay_222 ss hs⟩) (Nat.le_of_ble_eq_true rfl) rfl rfl h (fun r1 V1 hg1 hr1 h => ?_)
  refine ax_if (p1 := 27) (p2 := 7) ⟨_, rfl⟩ (by decide) rfl hr1 (fun hc => ?_) (fun hc => ?_)
  · have h := h.1 hc
    refine ax_mv 1 28 [some (.ref 222)] [ax_i 0] rfl ?_
    exact ax_iret ⟨_, rfl⟩ rfl (ax_nbv (by decide)) (by decide) hg1 h
  · have h := h.2 hc
    refine ax_mv 1 8 [some (.ref 222)] [.ref 222] rfl ?_
    refine ax_callI (pc' := 11) ⟨_, rfl⟩ ml_12_300 (rest := []) rfl (fun ss hs => ⟨_, _, ay_222 ss hs⟩) (Nat.le_of_ble_eq_true rfl) rfl rfl h (fun r2 V2 hg2 hr2 h => ?_)
    refine ax_bip (pc' := 13) ⟨_, rfl⟩ (by decide) rfl ?_
    refine ax_if2 (p1 := 23) (p2 := 16) ⟨_, rfl⟩ (by decide) rfl hr2 (by decide) (fun hc => ?_) (fun hc => ?_)
    · have h := h.2 hc
      refine ax_mv 2 28 [some (.ref 222)] [ax_i 1] rfl ?_
      exact ax_iret ⟨_, rfl⟩ rfl (ax_nbv (by decide)) (by decide) hg2 h
    · have h := h.1 (Classical.not_not.mp hc)
      refine ax_mv 1 17 [some (.ref 222)] [.ref 222] rfl ?_
      refine ax_callI (pc' := 20) ⟨_, rfl⟩ ml_12_363 (rest := []) rfl (fun ss hs => ⟨_, _, ay_222 ss hs⟩) (Nat.le_of_ble_eq_true rfl) rfl rfl h (fun r3 V3 hg3 hr3 h => ?_)
      refine ax_if (p1 := 27) (p2 := 23) ⟨_, rfl⟩ (by decide) rfl hr3 (fun hc => ?_) (fun hc => ?_)
      · have h := h.1 hc
        refine ax_mv 1 28 [some (.ref 222)] [ax_i 0] rfl ?_
        exact ax_iret ⟨_, rfl⟩ rfl (ax_nbv (by decide)) (by decide) hg3 h
      · have h := h.2 hc
        refine ax_mv 2 28 [some (.ref 222)] [ax_i 1] rfl ?_
        exact ax_iret ⟨_, rfl⟩ rfl (ax_nbv (by decide)) (by decide) hg3 h
