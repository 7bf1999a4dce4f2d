/-! RULES of the model's methods: a method each, and each loop of it. PRINTED by wip/gen/rules.py -/
theorem r_Model_thrown {d : Nat} {V : ax_V} {Φ : Int → ax_V → Prop} {Θ : ax_V → Prop} (hg : ax_g V) (h : Φ (V 222 0) V) : ax_I ay_lay (d + 1) q_Model_thrown [.ref 222] V Φ Θ := by
  refine ax_T.of (M := m_Model_thrown) rfl (Nat.le_of_ble_eq_true rfl) ?_
  refine ax_mv 0 0 [some (.ref 222)] [] rfl ?_
  refine ax_mv 1 1 [some (.ref 222)] [.ref 222] rfl ?_
  refine ax_gI (kI := 0) (pc' := 4) ⟨_, rfl⟩ fl_12_285 ay_222 rfl rfl rfl ?_
  exact ax_iret ⟨_, rfl⟩ rfl rfl (hg _ _) hg h
abbrev k_Model_module_10 (d : Nat) (x1 : Int) (y2 : Option Value) (V : ax_V) (Φ : Int → ax_V → Prop) (Θ : ax_V → Prop) : Prop := ax_R ay_lay ax_t d m_Model_module 10 [some (.ref 222), some (ax_i x1), y2] [] V (ax_Ir Φ) Θ
abbrev k_Model_module_75 (d : Nat) (x1 : Int) (y2 : Option Value) (s0 : Int) (V : ax_V) (Φ : Int → ax_V → Prop) (Θ : ax_V → Prop) : Prop := ax_R ay_lay ax_t d m_Model_module 75 [some (.ref 222), some (ax_i x1), y2] [ax_i s0, .ref 222] V (ax_Ir Φ) Θ
abbrev k_Model_module_110 (d : Nat) (y1 : Option Value) (x2 : Int) (V : ax_V) (Φ : Int → ax_V → Prop) (Θ : ax_V → Prop) : Prop := ax_R ay_lay ax_t d m_Model_module 110 [some (.ref 222), y1, some (ax_i x2)] [] V (ax_Ir Φ) Θ
abbrev k_Model_module_156 (d : Nat) (y1 : Option Value) (x2 : Int) (V : ax_V) (Φ : Int → ax_V → Prop) (Θ : ax_V → Prop) : Prop := ax_R ay_lay ax_t d m_Model_module 156 [some (.ref 222), y1, some (ax_i x2)] [] V (ax_Ir Φ) Θ
set_option maxRecDepth 20000 in
theorem r_Model_module_10 {d : Nat} {V : ax_V} {Φ : Int → ax_V → Prop} {Θ : ax_V → Prop} {x1 : Int} {y2 : Option Value} (hg : ax_g V) (hx1 : ax_rg x1) (hy2 : ax_y y2) (h : ((V 222 3 ≤ x1 → (∀ V1, V1 = ax_u V 222 1 0 → ax_I ay_lay d q_Model_isModule [.ref 222] V1 (fun r2 V2 => ((r2 = 0 → (∀ V3, V3 = ax_u V2 222 8 (V2 222 88) → ((r2 = 0 → k_Model_module_75 d r2 y2 (V3 222 89) V3 Φ Θ) ∧ (¬ r2 = 0 → k_Model_module_75 d r2 y2 0 V3 Φ Θ)))) ∧ (¬ r2 = 0 → (∀ V4, V4 = ax_u V2 222 8 0 → ((r2 = 0 → k_Model_module_75 d r2 y2 (V4 222 89) V4 Φ Θ) ∧ (¬ r2 = 0 → k_Model_module_75 d r2 y2 0 V4 Φ Θ)))))) Θ)) ∧ (x1 < V 222 3 → (0 ≤ x1 ∧ x1 < 700) ∧ (0 ≤ x1 ∧ x1 < 700) ∧ (∀ V5, V5 = ax_u V 224 x1 (V 223 x1) → k_Model_module_10 d (x1 + 1) y2 V5 Φ Θ)))) : k_Model_module_10 d x1 y2 V Φ Θ := by
  refine ax_mv 2 12 [some (.ref 222), some (ax_i x1), y2] [.ref 222, ax_i x1] rfl ?_
  refine ax_gI (kI := 3) (pc' := 15) ⟨_, rfl⟩ fl_12_297 ay_222 rfl rfl rfl ?_
  refine ax_if2 (p1 := 36) (p2 := 18) ⟨_, rfl⟩ (by decide) rfl hx1 (hg _ _) (fun hc => ?_) (fun hc => ?_)
  · have h := h.1 hc
    refine ax_mv 2 38 [some (.ref 222), some (ax_i x1), y2] [ax_i 0, .ref 222] rfl ?_
    obtain ⟨V1, eV1⟩ : ∃ W9 : ax_V, W9 = ax_u V 222 1 0 := ⟨_, rfl⟩
    have h := h V1 eV1
    have hg1 : ax_g V1 := eV1 ▸ ax_u_g hg (by decide)
    refine ax_pI (kI := 1) (pc' := 41) ⟨_, rfl⟩ fl_12_289 ay_ok ay_222 rfl rfl rfl rfl eV1 rfl ?_
    refine ax_mv 1 42 [some (.ref 222), some (ax_i x1), y2] [.ref 222] rfl ?_
    refine ax_callI (pc' := 45) ⟨_, rfl⟩ ml_12_601 (rest := []) rfl (fun ss hs => ⟨_, _, ay_222 ss hs⟩) (Nat.le_of_ble_eq_true rfl) rfl rfl h (fun r2 V2 hg2 hr2 h => ?_)
    refine ax_sti (i := 0) (k := 1) (n := 1) (pc' := 46) (L' := [some (.ref 222), some (ax_i r2), y2]) ⟨_, rfl⟩ rfl rfl rfl (Nat.le_of_ble_eq_true rfl) rfl rfl ?_
    refine ax_mv 2 48 [some (.ref 222), some (ax_i r2), y2] [ax_i r2, .ref 222] rfl ?_
    refine ax_if (p1 := 55) (p2 := 51) ⟨_, rfl⟩ (by decide) rfl hr2 (fun hc => ?_) (fun hc => ?_)
    · have h := h.1 hc
      refine ax_mv 1 56 [some (.ref 222), some (ax_i r2), y2] [.ref 222, .ref 222] rfl ?_
      refine ax_gI (kI := 88) (pc' := 59) ⟨_, rfl⟩ fl_12_573 ay_222 rfl rfl rfl ?_
      obtain ⟨V3, eV3⟩ : ∃ W9 : ax_V, W9 = ax_u V2 222 8 (V2 222 88) := ⟨_, rfl⟩
      have h := h V3 eV3
      have hg3 : ax_g V3 := eV3 ▸ ax_u_g hg2 (hg2 _ _)
      refine ax_pI (kI := 8) (pc' := 62) ⟨_, rfl⟩ fl_12_604 ay_ok ay_222 rfl rfl rfl rfl eV3 rfl ?_
      refine ax_mv 2 64 [some (.ref 222), some (ax_i r2), y2] [ax_i r2, .ref 222] rfl ?_
      refine ax_if (p1 := 71) (p2 := 67) ⟨_, rfl⟩ (by decide) rfl hr2 (fun hc => ?_) (fun hc => ?_)
      · have h := h.1 hc
        refine ax_mv 1 72 [some (.ref 222), some (ax_i r2), y2] [.ref 222, .ref 222] rfl ?_
        refine ax_gI (kI := 89) (pc' := 75) ⟨_, rfl⟩ fl_12_579 ay_222 rfl rfl rfl ?_
        exact h
      · have h := h.2 hc
        refine ax_mv 2 75 [some (.ref 222), some (ax_i r2), y2] [ax_i 0, .ref 222] rfl ?_
        exact h
    · have h := h.2 hc
      refine ax_mv 2 59 [some (.ref 222), some (ax_i r2), y2] [ax_i 0, .ref 222] rfl ?_
      obtain ⟨V4, eV4⟩ : ∃ W9 : ax_V, W9 = ax_u V2 222 8 0 := ⟨_, rfl⟩
      have h := h V4 eV4
      have hg4 : ax_g V4 := eV4 ▸ ax_u_g hg2 (by decide)
      refine ax_pI (kI := 8) (pc' := 62) ⟨_, rfl⟩ fl_12_604 ay_ok ay_222 rfl rfl rfl rfl eV4 rfl ?_
      refine ax_mv 2 64 [some (.ref 222), some (ax_i r2), y2] [ax_i r2, .ref 222] rfl ?_
      refine ax_if (p1 := 71) (p2 := 67) ⟨_, rfl⟩ (by decide) rfl hr2 (fun hc => ?_) (fun hc => ?_)
      · have h := h.1 hc
        refine ax_mv 1 72 [some (.ref 222), some (ax_i r2), y2] [.ref 222, .ref 222] rfl ?_
        refine ax_gI (kI := 89) (pc' := 75) ⟨_, rfl⟩ fl_12_579 ay_222 rfl rfl rfl ?_
        exact h
      · have h := h.2 hc
        refine ax_mv 2 75 [some (.ref 222), some (ax_i r2), y2] [ax_i 0, .ref 222] rfl ?_
        exact h
  · have h := h.2 (Int.not_le.mp hc)
    refine ax_mv 1 19 [some (.ref 222), some (ax_i x1), y2] [.ref 222] rfl ?_
    refine ax_gR (v := .ref 224) (pc' := 22) ⟨_, rfl⟩ fl_12_13 ay_222 rfl rfl ?_
    refine ax_mv 2 24 [some (.ref 222), some (ax_i x1), y2] [.ref 222, ax_i x1, .ref 224] rfl ?_
    refine ax_gR (v := .ref 223) (pc' := 27) ⟨_, rfl⟩ fl_12_7 ay_222 rfl rfl ?_
    refine ax_mv 1 28 [some (.ref 222), some (ax_i x1), y2] [ax_i x1, .ref 223, ax_i x1, .ref 224] rfl ?_
    obtain ⟨o1, h⟩ := h
    refine ax_ild (n := 700) (pc' := 29) ⟨_, rfl⟩ ay_223 (by decide) o1 rfl ?_
    obtain ⟨o2, h⟩ := h
    obtain ⟨V5, eV5⟩ : ∃ W9 : ax_V, W9 = ax_u V 224 x1 (V 223 x1) := ⟨_, rfl⟩
    have h := h V5 eV5
    have hg5 : ax_g V5 := eV5 ▸ ax_u_g hg (hg _ _)
    refine ax_ist (n := 700) (pc' := 30) ⟨_, rfl⟩ ay_ok ay_224 (by decide) o2 eV5 rfl ?_
    refine ax_inc (x := x1) (pc' := 33) (L' := [some (.ref 222), some (ax_i (x1 + 1)), y2]) ⟨_, rfl⟩ rfl rfl rfl rfl ?_
    refine ax_mv 1 10 [some (.ref 222), some (ax_i (x1 + 1)), y2] [] rfl ?_
    exact h
set_option maxRecDepth 20000 in
theorem r_Model_module_75 {d : Nat} {V : ax_V} {Φ : Int → ax_V → Prop} {Θ : ax_V → Prop} {x1 : Int} {y2 : Option Value} {s0 : Int} (hg : ax_g V) (hx1 : ax_rg x1) (hy2 : ax_y y2) (hs0 : ax_rg s0) (h : (∀ V1, V1 = ax_u V 222 9 s0 → ((x1 = 0 → (∀ V2, V2 = ax_u V1 222 0 1 → ((x1 = 0 → (∀ V3, V3 = ax_u V2 222 3 (V2 222 5) → k_Model_module_156 d (some (ax_i x1)) 0 V3 Φ Θ)) ∧ (¬ x1 = 0 → (∀ V4, V4 = ax_u V2 222 7 1 → (∀ V5, V5 = ax_u V4 222 5 (V4 222 3) → k_Model_module_110 d (some (ax_i x1)) 0 V5 Φ Θ)))))) ∧ (¬ x1 = 0 → (∀ V6, V6 = ax_u V1 222 0 0 → ((x1 = 0 → (∀ V7, V7 = ax_u V6 222 3 (V6 222 5) → k_Model_module_156 d (some (ax_i x1)) 0 V7 Φ Θ)) ∧ (¬ x1 = 0 → (∀ V8, V8 = ax_u V6 222 7 1 → (∀ V9, V9 = ax_u V8 222 5 (V8 222 3) → k_Model_module_110 d (some (ax_i x1)) 0 V9 Φ Θ))))))))) : k_Model_module_75 d x1 y2 s0 V Φ Θ := by
  obtain ⟨V1, eV1⟩ : ∃ W9 : ax_V, W9 = ax_u V 222 9 s0 := ⟨_, rfl⟩
  have h := h V1 eV1
  have hg1 : ax_g V1 := eV1 ▸ ax_u_g hg hs0
  refine ax_pI (kI := 9) (pc' := 78) ⟨_, rfl⟩ fl_12_607 ay_ok ay_222 rfl rfl rfl rfl eV1 rfl ?_
  refine ax_mv 2 80 [some (.ref 222), some (ax_i x1), y2] [ax_i x1, .ref 222] rfl ?_
  refine ax_if (p1 := 87) (p2 := 83) ⟨_, rfl⟩ (by decide) rfl hx1 (fun hc => ?_) (fun hc => ?_)
  · have h := h.1 hc
    refine ax_mv 1 88 [some (.ref 222), some (ax_i x1), y2] [ax_i 1, .ref 222] rfl ?_
    obtain ⟨V2, eV2⟩ : ∃ W9 : ax_V, W9 = ax_u V1 222 0 1 := ⟨_, rfl⟩
    have h := h V2 eV2
    have hg2 : ax_g V2 := eV2 ▸ ax_u_g hg1 (by decide)
    refine ax_pI (kI := 0) (pc' := 91) ⟨_, rfl⟩ fl_12_285 ay_ok ay_222 rfl rfl rfl rfl eV2 rfl ?_
    refine ax_mv 1 92 [some (.ref 222), some (ax_i x1), y2] [ax_i x1] rfl ?_
    refine ax_if (p1 := 146) (p2 := 95) ⟨_, rfl⟩ (by decide) rfl hx1 (fun hc => ?_) (fun hc => ?_)
    · have h := h.1 hc
      refine ax_mv 2 148 [some (.ref 222), some (ax_i x1), y2] [.ref 222, .ref 222] rfl ?_
      refine ax_gI (kI := 5) (pc' := 151) ⟨_, rfl⟩ fl_12_613 ay_222 rfl rfl rfl ?_
      obtain ⟨V3, eV3⟩ : ∃ W9 : ax_V, W9 = ax_u V2 222 3 (V2 222 5) := ⟨_, rfl⟩
      have h := h V3 eV3
      have hg3 : ax_g V3 := eV3 ▸ ax_u_g hg2 (hg2 _ _)
      refine ax_pI (kI := 3) (pc' := 154) ⟨_, rfl⟩ fl_12_297 ay_ok ay_222 rfl rfl rfl rfl eV3 rfl ?_
      refine ax_mv 1 155 [some (.ref 222), some (ax_i x1), y2] [ax_i 0] rfl ?_
      refine ax_sti (i := 0) (k := 2) (n := 1) (pc' := 156) (L' := [some (.ref 222), some (ax_i x1), some (ax_i 0)]) ⟨_, rfl⟩ rfl rfl rfl (Nat.le_of_ble_eq_true rfl) rfl rfl ?_
      exact h
    · have h := h.2 hc
      refine ax_mv 2 97 [some (.ref 222), some (ax_i x1), y2] [ax_i 1, .ref 222] rfl ?_
      obtain ⟨V4, eV4⟩ : ∃ W9 : ax_V, W9 = ax_u V2 222 7 1 := ⟨_, rfl⟩
      have h := h V4 eV4
      have hg4 : ax_g V4 := eV4 ▸ ax_u_g hg2 (by decide)
      refine ax_pI (kI := 7) (pc' := 100) ⟨_, rfl⟩ fl_12_610 ay_ok ay_222 rfl rfl (ax_nbv (by decide)) rfl eV4 rfl ?_
      refine ax_mv 2 102 [some (.ref 222), some (ax_i x1), y2] [.ref 222, .ref 222] rfl ?_
      refine ax_gI (kI := 3) (pc' := 105) ⟨_, rfl⟩ fl_12_297 ay_222 rfl rfl rfl ?_
      obtain ⟨V5, eV5⟩ : ∃ W9 : ax_V, W9 = ax_u V4 222 5 (V4 222 3) := ⟨_, rfl⟩
      have h := h V5 eV5
      have hg5 : ax_g V5 := eV5 ▸ ax_u_g hg4 (hg4 _ _)
      refine ax_pI (kI := 5) (pc' := 108) ⟨_, rfl⟩ fl_12_613 ay_ok ay_222 rfl rfl rfl rfl eV5 rfl ?_
      refine ax_mv 1 109 [some (.ref 222), some (ax_i x1), y2] [ax_i 0] rfl ?_
      refine ax_sti (i := 0) (k := 2) (n := 1) (pc' := 110) (L' := [some (.ref 222), some (ax_i x1), some (ax_i 0)]) ⟨_, rfl⟩ rfl rfl rfl (Nat.le_of_ble_eq_true rfl) rfl rfl ?_
      exact h
  · have h := h.2 hc
    refine ax_mv 2 88 [some (.ref 222), some (ax_i x1), y2] [ax_i 0, .ref 222] rfl ?_
    obtain ⟨V6, eV6⟩ : ∃ W9 : ax_V, W9 = ax_u V1 222 0 0 := ⟨_, rfl⟩
    have h := h V6 eV6
    have hg6 : ax_g V6 := eV6 ▸ ax_u_g hg1 (by decide)
    refine ax_pI (kI := 0) (pc' := 91) ⟨_, rfl⟩ fl_12_285 ay_ok ay_222 rfl rfl rfl rfl eV6 rfl ?_
    refine ax_mv 1 92 [some (.ref 222), some (ax_i x1), y2] [ax_i x1] rfl ?_
    refine ax_if (p1 := 146) (p2 := 95) ⟨_, rfl⟩ (by decide) rfl hx1 (fun hc => ?_) (fun hc => ?_)
    · have h := h.1 hc
      refine ax_mv 2 148 [some (.ref 222), some (ax_i x1), y2] [.ref 222, .ref 222] rfl ?_
      refine ax_gI (kI := 5) (pc' := 151) ⟨_, rfl⟩ fl_12_613 ay_222 rfl rfl rfl ?_
      obtain ⟨V7, eV7⟩ : ∃ W9 : ax_V, W9 = ax_u V6 222 3 (V6 222 5) := ⟨_, rfl⟩
      have h := h V7 eV7
      have hg7 : ax_g V7 := eV7 ▸ ax_u_g hg6 (hg6 _ _)
      refine ax_pI (kI := 3) (pc' := 154) ⟨_, rfl⟩ fl_12_297 ay_ok ay_222 rfl rfl rfl rfl eV7 rfl ?_
      refine ax_mv 1 155 [some (.ref 222), some (ax_i x1), y2] [ax_i 0] rfl ?_
      refine ax_sti (i := 0) (k := 2) (n := 1) (pc' := 156) (L' := [some (.ref 222), some (ax_i x1), some (ax_i 0)]) ⟨_, rfl⟩ rfl rfl rfl (Nat.le_of_ble_eq_true rfl) rfl rfl ?_
      exact h
    · have h := h.2 hc
      refine ax_mv 2 97 [some (.ref 222), some (ax_i x1), y2] [ax_i 1, .ref 222] rfl ?_
      obtain ⟨V8, eV8⟩ : ∃ W9 : ax_V, W9 = ax_u V6 222 7 1 := ⟨_, rfl⟩
      have h := h V8 eV8
      have hg8 : ax_g V8 := eV8 ▸ ax_u_g hg6 (by decide)
      refine ax_pI (kI := 7) (pc' := 100) ⟨_, rfl⟩ fl_12_610 ay_ok ay_222 rfl rfl (ax_nbv (by decide)) rfl eV8 rfl ?_
      refine ax_mv 2 102 [some (.ref 222), some (ax_i x1), y2] [.ref 222, .ref 222] rfl ?_
      refine ax_gI (kI := 3) (pc' := 105) ⟨_, rfl⟩ fl_12_297 ay_222 rfl rfl rfl ?_
      obtain ⟨V9, eV9⟩ : ∃ W9 : ax_V, W9 = ax_u V8 222 5 (V8 222 3) := ⟨_, rfl⟩
      have h := h V9 eV9
      have hg9 : ax_g V9 := eV9 ▸ ax_u_g hg8 (hg8 _ _)
      refine ax_pI (kI := 5) (pc' := 108) ⟨_, rfl⟩ fl_12_613 ay_ok ay_222 rfl rfl rfl rfl eV9 rfl ?_
      refine ax_mv 1 109 [some (.ref 222), some (ax_i x1), y2] [ax_i 0] rfl ?_
      refine ax_sti (i := 0) (k := 2) (n := 1) (pc' := 110) (L' := [some (.ref 222), some (ax_i x1), some (ax_i 0)]) ⟨_, rfl⟩ rfl rfl rfl (Nat.le_of_ble_eq_true rfl) rfl rfl ?_
      exact h
set_option maxRecDepth 20000 in
theorem r_Model_module_110 {d : Nat} {V : ax_V} {Φ : Int → ax_V → Prop} {Θ : ax_V → Prop} {y1 : Option Value} {x2 : Int} (hg : ax_g V) (hy1 : ax_y y1) (hx2 : ax_rg x2) (h : ((V 222 3 ≤ x2 → (∀ V1, V1 = ax_u V 222 102 0 → Φ (V1 222 86) V1)) ∧ (x2 < V 222 3 → (0 ≤ x2 ∧ x2 < 700) ∧ (0 ≤ x2 ∧ x2 < 700) ∧ (∀ V2, V2 = ax_u V 225 x2 (V 224 x2) → k_Model_module_110 d y1 (x2 + 1) V2 Φ Θ)))) : k_Model_module_110 d y1 x2 V Φ Θ := by
  refine ax_mv 2 112 [some (.ref 222), y1, some (ax_i x2)] [.ref 222, ax_i x2] rfl ?_
  refine ax_gI (kI := 3) (pc' := 115) ⟨_, rfl⟩ fl_12_297 ay_222 rfl rfl rfl ?_
  refine ax_if2 (p1 := 136) (p2 := 118) ⟨_, rfl⟩ (by decide) rfl hx2 (hg _ _) (fun hc => ?_) (fun hc => ?_)
  · have h := h.1 hc
    refine ax_mv 2 138 [some (.ref 222), y1, some (ax_i x2)] [ax_i 0, .ref 222] rfl ?_
    obtain ⟨V1, eV1⟩ : ∃ W9 : ax_V, W9 = ax_u V 222 102 0 := ⟨_, rfl⟩
    have h := h V1 eV1
    have hg1 : ax_g V1 := eV1 ▸ ax_u_g hg (by decide)
    refine ax_pI (kI := 102) (pc' := 141) ⟨_, rfl⟩ fl_12_616 ay_ok ay_222 rfl rfl rfl rfl eV1 rfl ?_
    refine ax_mv 1 142 [some (.ref 222), y1, some (ax_i x2)] [.ref 222] rfl ?_
    refine ax_gI (kI := 86) (pc' := 145) ⟨_, rfl⟩ fl_12_444 ay_222 rfl rfl rfl ?_
    exact ax_iret ⟨_, rfl⟩ rfl rfl (hg1 _ _) hg1 h
  · have h := h.2 (Int.not_le.mp hc)
    refine ax_mv 1 119 [some (.ref 222), y1, some (ax_i x2)] [.ref 222] rfl ?_
    refine ax_gR (v := .ref 225) (pc' := 122) ⟨_, rfl⟩ fl_12_16 ay_222 rfl rfl ?_
    refine ax_mv 2 124 [some (.ref 222), y1, some (ax_i x2)] [.ref 222, ax_i x2, .ref 225] rfl ?_
    refine ax_gR (v := .ref 224) (pc' := 127) ⟨_, rfl⟩ fl_12_13 ay_222 rfl rfl ?_
    refine ax_mv 1 128 [some (.ref 222), y1, some (ax_i x2)] [ax_i x2, .ref 224, ax_i x2, .ref 225] rfl ?_
    obtain ⟨o3, h⟩ := h
    refine ax_ild (n := 700) (pc' := 129) ⟨_, rfl⟩ ay_224 (by decide) o3 rfl ?_
    obtain ⟨o4, h⟩ := h
    obtain ⟨V2, eV2⟩ : ∃ W9 : ax_V, W9 = ax_u V 225 x2 (V 224 x2) := ⟨_, rfl⟩
    have h := h V2 eV2
    have hg2 : ax_g V2 := eV2 ▸ ax_u_g hg (hg _ _)
    refine ax_ist (n := 700) (pc' := 130) ⟨_, rfl⟩ ay_ok ay_225 (by decide) o4 eV2 rfl ?_
    refine ax_inc (x := x2) (pc' := 133) (L' := [some (.ref 222), y1, some (ax_i (x2 + 1))]) ⟨_, rfl⟩ rfl (ax_kill_y (k := 1) rfl hy1) rfl rfl ?_
    refine ax_mv 1 110 [some (.ref 222), y1, some (ax_i (x2 + 1))] [] rfl ?_
    exact h
set_option maxRecDepth 20000 in
theorem r_Model_module_156 {d : Nat} {V : ax_V} {Φ : Int → ax_V → Prop} {Θ : ax_V → Prop} {y1 : Option Value} {x2 : Int} (hg : ax_g V) (hy1 : ax_y y1) (hx2 : ax_rg x2) (h : ((V 222 3 ≤ x2 → ((V 222 7 = 0 → Φ 0 V) ∧ (¬ V 222 7 = 0 → ax_I ay_lay d q_Model_isModule [.ref 222] V (fun r1 V1 => ((r1 = 0 → Φ 0 V1) ∧ (¬ r1 = 0 → (∀ V2, V2 = ax_u V1 222 10 (V1 222 86) → Φ 0 V2)))) Θ))) ∧ (x2 < V 222 3 → (0 ≤ x2 ∧ x2 < 700) ∧ (0 ≤ x2 ∧ x2 < 700) ∧ (∀ V3, V3 = ax_u V 224 x2 (V 225 x2) → k_Model_module_156 d y1 (x2 + 1) V3 Φ Θ)))) : k_Model_module_156 d y1 x2 V Φ Θ := by
  refine ax_mv 2 158 [some (.ref 222), y1, some (ax_i x2)] [.ref 222, ax_i x2] rfl ?_
  refine ax_gI (kI := 3) (pc' := 161) ⟨_, rfl⟩ fl_12_297 ay_222 rfl rfl rfl ?_
  refine ax_if2 (p1 := 182) (p2 := 164) ⟨_, rfl⟩ (by decide) rfl hx2 (hg _ _) (fun hc => ?_) (fun hc => ?_)
  · have h := h.1 hc
    refine ax_mv 1 183 [some (.ref 222), y1, some (ax_i x2)] [.ref 222] rfl ?_
    refine ax_gI (kI := 7) (pc' := 186) ⟨_, rfl⟩ fl_12_610 ay_222 rfl rfl rfl ?_
    refine ax_if (p1 := 204) (p2 := 189) ⟨_, rfl⟩ (by decide) rfl (hg _ _) (fun hc => ?_) (fun hc => ?_)
    · have h := h.1 hc
      refine ax_mv 1 205 [some (.ref 222), y1, some (ax_i x2)] [ax_i 0] rfl ?_
      exact ax_iret ⟨_, rfl⟩ rfl rfl (by decide) hg h
    · have h := h.2 hc
      refine ax_mv 1 190 [some (.ref 222), y1, some (ax_i x2)] [.ref 222] rfl ?_
      refine ax_callI (pc' := 193) ⟨_, rfl⟩ ml_12_601 (rest := []) rfl (fun ss hs => ⟨_, _, ay_222 ss hs⟩) (Nat.le_of_ble_eq_true rfl) rfl rfl h (fun r1 V1 hg1 hr1 h => ?_)
      refine ax_if (p1 := 204) (p2 := 196) ⟨_, rfl⟩ (by decide) rfl hr1 (fun hc => ?_) (fun hc => ?_)
      · have h := h.1 hc
        refine ax_mv 1 205 [some (.ref 222), y1, some (ax_i x2)] [ax_i 0] rfl ?_
        exact ax_iret ⟨_, rfl⟩ rfl rfl (by decide) hg1 h
      · have h := h.2 hc
        refine ax_mv 2 198 [some (.ref 222), y1, some (ax_i x2)] [.ref 222, .ref 222] rfl ?_
        refine ax_gI (kI := 86) (pc' := 201) ⟨_, rfl⟩ fl_12_444 ay_222 rfl rfl rfl ?_
        obtain ⟨V2, eV2⟩ : ∃ W9 : ax_V, W9 = ax_u V1 222 10 (V1 222 86) := ⟨_, rfl⟩
        have h := h V2 eV2
        have hg2 : ax_g V2 := eV2 ▸ ax_u_g hg1 (hg1 _ _)
        refine ax_pI (kI := 10) (pc' := 204) ⟨_, rfl⟩ fl_12_320 ay_ok ay_222 rfl rfl rfl rfl eV2 rfl ?_
        refine ax_mv 1 205 [some (.ref 222), y1, some (ax_i x2)] [ax_i 0] rfl ?_
        exact ax_iret ⟨_, rfl⟩ rfl rfl (by decide) hg2 h
  · have h := h.2 (Int.not_le.mp hc)
    refine ax_mv 1 165 [some (.ref 222), y1, some (ax_i x2)] [.ref 222] rfl ?_
    refine ax_gR (v := .ref 224) (pc' := 168) ⟨_, rfl⟩ fl_12_13 ay_222 rfl rfl ?_
    refine ax_mv 2 170 [some (.ref 222), y1, some (ax_i x2)] [.ref 222, ax_i x2, .ref 224] rfl ?_
    refine ax_gR (v := .ref 225) (pc' := 173) ⟨_, rfl⟩ fl_12_16 ay_222 rfl rfl ?_
    refine ax_mv 1 174 [some (.ref 222), y1, some (ax_i x2)] [ax_i x2, .ref 225, ax_i x2, .ref 224] rfl ?_
    obtain ⟨o5, h⟩ := h
    refine ax_ild (n := 700) (pc' := 175) ⟨_, rfl⟩ ay_225 (by decide) o5 rfl ?_
    obtain ⟨o6, h⟩ := h
    obtain ⟨V3, eV3⟩ : ∃ W9 : ax_V, W9 = ax_u V 224 x2 (V 225 x2) := ⟨_, rfl⟩
    have h := h V3 eV3
    have hg3 : ax_g V3 := eV3 ▸ ax_u_g hg (hg _ _)
    refine ax_ist (n := 700) (pc' := 176) ⟨_, rfl⟩ ay_ok ay_224 (by decide) o6 eV3 rfl ?_
    refine ax_inc (x := x2) (pc' := 179) (L' := [some (.ref 222), y1, some (ax_i (x2 + 1))]) ⟨_, rfl⟩ rfl (ax_kill_y (k := 1) rfl hy1) rfl rfl ?_
    refine ax_mv 1 156 [some (.ref 222), y1, some (ax_i (x2 + 1))] [] rfl ?_
    exact h
set_option maxRecDepth 20000 in
theorem r_Model_module {d : Nat} {V : ax_V} {Φ : Int → ax_V → Prop} {Θ : ax_V → Prop} (hg : ax_g V) (h : (∀ V1, V1 = ax_u V 222 3 (V 222 1) → k_Model_module_10 d 0 none V1 Φ Θ)) : ax_I ay_lay (d + 1) q_Model_module [.ref 222] V Φ Θ := by
  refine ax_T.of (M := m_Model_module) rfl (Nat.le_of_ble_eq_true rfl) ?_
  refine ax_mv 0 0 [some (.ref 222), none, none] [] rfl ?_
  refine ax_mv 2 2 [some (.ref 222), none, none] [.ref 222, .ref 222] rfl ?_
  refine ax_gI (kI := 1) (pc' := 5) ⟨_, rfl⟩ fl_12_289 ay_222 rfl rfl rfl ?_
  obtain ⟨V1, eV1⟩ : ∃ W9 : ax_V, W9 = ax_u V 222 3 (V 222 1) := ⟨_, rfl⟩
  have h := h V1 eV1
  have hg1 : ax_g V1 := eV1 ▸ ax_u_g hg (hg _ _)
  refine ax_pI (kI := 3) (pc' := 8) ⟨_, rfl⟩ fl_12_297 ay_ok ay_222 rfl rfl rfl rfl eV1 rfl ?_
  refine ax_mv 1 9 [some (.ref 222), none, none] [ax_i 0] rfl ?_
  refine ax_sti (i := 0) (k := 1) (n := 1) (pc' := 10) (L' := [some (.ref 222), some (ax_i 0), none]) ⟨_, rfl⟩ rfl rfl rfl (Nat.le_of_ble_eq_true rfl) rfl rfl ?_
  exact h
abbrev k_Model_isModule_24 (d : Nat) (x1 : Int) (V : ax_V) (Φ : Int → ax_V → Prop) (Θ : ax_V → Prop) : Prop := ax_R ay_lay ax_t d m_Model_isModule 24 [some (.ref 222), some (ax_i x1)] [] V (ax_Ir Φ) Θ
theorem r_Model_isModule_24 {d : Nat} {V : ax_V} {Φ : Int → ax_V → Prop} {Θ : ax_V → Prop} {x1 : Int} (hg : ax_g V) (hx1 : ax_rg x1) (h : ((7 ≤ x1 → ax_N ay_lay d q_Model_settleClocks [.ref 222] V (fun V1 => ax_N ay_lay d q_Model_findSlots [.ref 222] V1 (fun V2 => Φ 1 V2) Θ) Θ) ∧ (x1 < 7 → ((x1 ≤ 2 → ax_N ay_lay d q_Model_checkKind [.ref 222, ax_i x1] V (fun V3 => (∀ V4, V4 = ax_u V3 222 88 x1 → (∀ V5, V5 = ax_u V4 222 89 (V4 222 73) → ((V5 222 73 = -1 → k_Model_isModule_24 d (x1 + 1) V5 Φ Θ) ∧ (¬ V5 222 73 = -1 → Φ 0 V5))))) Θ) ∧ (2 < x1 → (∀ V6, V6 = ax_u V 222 73 (-1) → ax_N ay_lay d q_Model_checkKind [.ref 222, ax_i x1] V6 (fun V7 => (∀ V8, V8 = ax_u V7 222 88 x1 → (∀ V9, V9 = ax_u V8 222 89 (V8 222 73) → ((V9 222 73 = -1 → k_Model_isModule_24 d (x1 + 1) V9 Φ Θ) ∧ (¬ V9 222 73 = -1 → Φ 0 V9))))) Θ)))))) : k_Model_isModule_24 d x1 V Φ Θ := by
  refine ax_mv 1 25 [some (.ref 222), some (ax_i x1)] [ax_i x1] rfl ?_
  refine ax_bip (pc' := 27) ⟨_, rfl⟩ (by decide) rfl ?_
  refine ax_if2 (p1 := 74) (p2 := 30) ⟨_, rfl⟩ (by decide) rfl hx1 (by decide) (fun hc => ?_) (fun hc => ?_)
  · have h := h.1 hc
    refine ax_mv 1 75 [some (.ref 222), some (ax_i x1)] [.ref 222] rfl ?_
    refine ax_callN (pc' := 78) ⟨_, rfl⟩ ml_12_585 (rest := []) rfl (fun ss hs => ⟨_, _, ay_222 ss hs⟩) (Nat.le_of_ble_eq_true rfl) rfl rfl h (fun V1 hg1 h => ?_)
    refine ax_mv 1 79 [some (.ref 222), some (ax_i x1)] [.ref 222] rfl ?_
    refine ax_callN (pc' := 82) ⟨_, rfl⟩ ml_12_588 (rest := []) rfl (fun ss hs => ⟨_, _, ay_222 ss hs⟩) (Nat.le_of_ble_eq_true rfl) rfl rfl h (fun V2 hg2 h => ?_)
    refine ax_mv 1 83 [some (.ref 222), some (ax_i x1)] [ax_i 1] rfl ?_
    exact ax_iret ⟨_, rfl⟩ rfl (ax_nbv (by decide)) (by decide) hg2 h
  · have h := h.2 (Int.not_le.mp hc)
    refine ax_mv 2 32 [some (.ref 222), some (ax_i x1)] [ax_i 2, ax_i x1] rfl ?_
    refine ax_if2 (p1 := 40) (p2 := 35) ⟨_, rfl⟩ (by decide) rfl hx1 (by decide) (fun hc => ?_) (fun hc => ?_)
    · have h := h.1 hc
      refine ax_mv 2 42 [some (.ref 222), some (ax_i x1)] [ax_i x1, .ref 222] rfl ?_
      refine ax_callN (pc' := 45) ⟨_, rfl⟩ ml_12_582 (rest := []) rfl (fun ss hs => ⟨_, _, ay_222 ss hs⟩) (Nat.le_of_ble_eq_true rfl) rfl rfl h (fun V3 hg3 h => ?_)
      refine ax_mv 2 47 [some (.ref 222), some (ax_i x1)] [ax_i x1, .ref 222] rfl ?_
      obtain ⟨V4, eV4⟩ : ∃ W9 : ax_V, W9 = ax_u V3 222 88 x1 := ⟨_, rfl⟩
      have h := h V4 eV4
      have hg4 : ax_g V4 := eV4 ▸ ax_u_g hg3 hx1
      refine ax_pI (kI := 88) (pc' := 50) ⟨_, rfl⟩ fl_12_573 ay_ok ay_222 rfl rfl rfl rfl eV4 rfl ?_
      refine ax_mv 2 52 [some (.ref 222), some (ax_i x1)] [.ref 222, .ref 222] rfl ?_
      refine ax_gI (kI := 73) (pc' := 55) ⟨_, rfl⟩ fl_12_304 ay_222 rfl rfl rfl ?_
      obtain ⟨V5, eV5⟩ : ∃ W9 : ax_V, W9 = ax_u V4 222 89 (V4 222 73) := ⟨_, rfl⟩
      have h := h V5 eV5
      have hg5 : ax_g V5 := eV5 ▸ ax_u_g hg4 (hg4 _ _)
      refine ax_pI (kI := 89) (pc' := 58) ⟨_, rfl⟩ fl_12_579 ay_ok ay_222 rfl rfl rfl rfl eV5 rfl ?_
      refine ax_mv 1 59 [some (.ref 222), some (ax_i x1)] [.ref 222] rfl ?_
      refine ax_gI (kI := 73) (pc' := 62) ⟨_, rfl⟩ fl_12_304 ay_222 rfl rfl rfl ?_
      refine ax_mv 1 63 [some (.ref 222), some (ax_i x1)] [ax_i (-1), ax_i (V5 222 73)] rfl ?_
      refine ax_if2 (p1 := 68) (p2 := 66) ⟨_, rfl⟩ (by decide) rfl (hg5 _ _) (by decide) (fun hc => ?_) (fun hc => ?_)
      · have h := h.1 hc
        refine ax_inc (x := x1) (pc' := 71) (L' := [some (.ref 222), some (ax_i (x1 + 1))]) ⟨_, rfl⟩ rfl rfl rfl rfl ?_
        refine ax_mv 1 24 [some (.ref 222), some (ax_i (x1 + 1))] [] rfl ?_
        exact h
      · have h := h.2 hc
        refine ax_mv 1 67 [some (.ref 222), some (ax_i x1)] [ax_i 0] rfl ?_
        exact ax_iret ⟨_, rfl⟩ rfl (ax_nbv (by decide)) (by decide) hg5 h
    · have h := h.2 (Int.not_le.mp hc)
      refine ax_mv 2 37 [some (.ref 222), some (ax_i x1)] [ax_i (-1), .ref 222] rfl ?_
      obtain ⟨V6, eV6⟩ : ∃ W9 : ax_V, W9 = ax_u V 222 73 (-1) := ⟨_, rfl⟩
      have h := h V6 eV6
      have hg6 : ax_g V6 := eV6 ▸ ax_u_g hg (by decide)
      refine ax_pI (kI := 73) (pc' := 40) ⟨_, rfl⟩ fl_12_304 ay_ok ay_222 rfl rfl rfl rfl eV6 rfl ?_
      refine ax_mv 2 42 [some (.ref 222), some (ax_i x1)] [ax_i x1, .ref 222] rfl ?_
      refine ax_callN (pc' := 45) ⟨_, rfl⟩ ml_12_582 (rest := []) rfl (fun ss hs => ⟨_, _, ay_222 ss hs⟩) (Nat.le_of_ble_eq_true rfl) rfl rfl h (fun V7 hg7 h => ?_)
      refine ax_mv 2 47 [some (.ref 222), some (ax_i x1)] [ax_i x1, .ref 222] rfl ?_
      obtain ⟨V8, eV8⟩ : ∃ W9 : ax_V, W9 = ax_u V7 222 88 x1 := ⟨_, rfl⟩
      have h := h V8 eV8
      have hg8 : ax_g V8 := eV8 ▸ ax_u_g hg7 hx1
      refine ax_pI (kI := 88) (pc' := 50) ⟨_, rfl⟩ fl_12_573 ay_ok ay_222 rfl rfl rfl rfl eV8 rfl ?_
      refine ax_mv 2 52 [some (.ref 222), some (ax_i x1)] [.ref 222, .ref 222] rfl ?_
      refine ax_gI (kI := 73) (pc' := 55) ⟨_, rfl⟩ fl_12_304 ay_222 rfl rfl rfl ?_
      obtain ⟨V9, eV9⟩ : ∃ W9 : ax_V, W9 = ax_u V8 222 89 (V8 222 73) := ⟨_, rfl⟩
      have h := h V9 eV9
      have hg9 : ax_g V9 := eV9 ▸ ax_u_g hg8 (hg8 _ _)
      refine ax_pI (kI := 89) (pc' := 58) ⟨_, rfl⟩ fl_12_579 ay_ok ay_222 rfl rfl rfl rfl eV9 rfl ?_
      refine ax_mv 1 59 [some (.ref 222), some (ax_i x1)] [.ref 222] rfl ?_
      refine ax_gI (kI := 73) (pc' := 62) ⟨_, rfl⟩ fl_12_304 ay_222 rfl rfl rfl ?_
      refine ax_mv 1 63 [some (.ref 222), some (ax_i x1)] [ax_i (-1), ax_i (V9 222 73)] rfl ?_
      refine ax_if2 (p1 := 68) (p2 := 66) ⟨_, rfl⟩ (by decide) rfl (hg9 _ _) (by decide) (fun hc => ?_) (fun hc => ?_)
      · have h := h.1 hc
        refine ax_inc (x := x1) (pc' := 71) (L' := [some (.ref 222), some (ax_i (x1 + 1))]) ⟨_, rfl⟩ rfl rfl rfl rfl ?_
        refine ax_mv 1 24 [some (.ref 222), some (ax_i (x1 + 1))] [] rfl ?_
        exact h
      · have h := h.2 hc
        refine ax_mv 1 67 [some (.ref 222), some (ax_i x1)] [ax_i 0] rfl ?_
        exact ax_iret ⟨_, rfl⟩ rfl (ax_nbv (by decide)) (by decide) hg9 h
theorem r_Model_isModule {d : Nat} {V : ax_V} {Φ : Int → ax_V → Prop} {Θ : ax_V → Prop} (hg : ax_g V) (h : (∀ V1, V1 = ax_u V 222 88 1 → ax_I ay_lay d q_Model_readAll [.ref 222] V1 (fun r2 V2 => ((r2 = 0 → (∀ V3, V3 = ax_u V2 222 89 (V2 222 68) → Φ 0 V3)) ∧ (¬ r2 = 0 → k_Model_isModule_24 d 2 V2 Φ Θ))) Θ)) : ax_I ay_lay (d + 1) q_Model_isModule [.ref 222] V Φ Θ := by
  refine ax_T.of (M := m_Model_isModule) rfl (Nat.le_of_ble_eq_true rfl) ?_
  refine ax_mv 0 0 [some (.ref 222), none] [] rfl ?_
  refine ax_mv 2 2 [some (.ref 222), none] [ax_i 1, .ref 222] rfl ?_
  obtain ⟨V1, eV1⟩ : ∃ W9 : ax_V, W9 = ax_u V 222 88 1 := ⟨_, rfl⟩
  have h := h V1 eV1
  have hg1 : ax_g V1 := eV1 ▸ ax_u_g hg (by decide)
  refine ax_pI (kI := 88) (pc' := 5) ⟨_, rfl⟩ fl_12_573 ay_ok ay_222 rfl rfl rfl rfl eV1 rfl ?_
  refine ax_mv 1 6 [some (.ref 222), none] [.ref 222] rfl ?_
  refine ax_callI (pc' := 9) ⟨_, rfl⟩ ml_12_576 (rest := []) rfl (fun ss hs => ⟨_, _, ay_222 ss hs⟩) (Nat.le_of_ble_eq_true rfl) rfl rfl h (fun r2 V2 hg2 hr2 h => ?_)
  refine ax_if (p1 := 22) (p2 := 12) ⟨_, rfl⟩ (by decide) rfl hr2 (fun hc => ?_) (fun hc => ?_)
  · have h := h.2 hc
    refine ax_mv 1 23 [some (.ref 222), none] [ax_i 2] rfl ?_
    refine ax_sti (i := 0) (k := 1) (n := 1) (pc' := 24) (L' := [some (.ref 222), some (ax_i 2)]) ⟨_, rfl⟩ rfl rfl rfl (Nat.le_of_ble_eq_true rfl) rfl rfl ?_
    exact h
  · have h := h.1 (Classical.not_not.mp hc)
    refine ax_mv 2 14 [some (.ref 222), none] [.ref 222, .ref 222] rfl ?_
    refine ax_gI (kI := 68) (pc' := 17) ⟨_, rfl⟩ fl_12_294 ay_222 rfl rfl rfl ?_
    obtain ⟨V3, eV3⟩ : ∃ W9 : ax_V, W9 = ax_u V2 222 89 (V2 222 68) := ⟨_, rfl⟩
    have h := h V3 eV3
    have hg3 : ax_g V3 := eV3 ▸ ax_u_g hg2 (hg2 _ _)
    refine ax_pI (kI := 89) (pc' := 20) ⟨_, rfl⟩ fl_12_579 ay_ok ay_222 rfl rfl rfl rfl eV3 rfl ?_
    refine ax_mv 1 21 [some (.ref 222), none] [ax_i 0] rfl ?_
    exact ax_iret ⟨_, rfl⟩ rfl (ax_nbv (by decide)) (by decide) hg3 h
abbrev k_Model_readAll_70 (d : Nat) (x1 : Int) (V : ax_V) (Φ : Int → ax_V → Prop) (Θ : ax_V → Prop) : Prop := ax_R ay_lay ax_t d m_Model_readAll 70 [some (.ref 222), some (ax_i x1)] [] V (ax_Ir Φ) Θ
theorem r_Model_readAll_70 {d : Nat} {V : ax_V} {Φ : Int → ax_V → Prop} {Θ : ax_V → Prop} {x1 : Int} (hg : ax_g V) (hx1 : ax_rg x1) (h : ((x1 = 0 → (∀ V1, V1 = ax_u V 222 86 (V 222 10) → (x1 = 0 ∨ x1 = 1) ∧ Φ x1 V1)) ∧ (¬ x1 = 0 → ((V 222 3 ≤ V 222 68 → (∀ V2, V2 = ax_u V 222 86 (V 222 10) → (x1 = 0 ∨ x1 = 1) ∧ Φ x1 V2)) ∧ (V 222 68 < V 222 3 → ax_I ay_lay d q_Model_readNode [.ref 222] V (fun r3 V3 => k_Model_readAll_70 d r3 V3 Φ Θ) Θ))))) : k_Model_readAll_70 d x1 V Φ Θ := by
  refine ax_mv 1 71 [some (.ref 222), some (ax_i x1)] [ax_i x1] rfl ?_
  refine ax_if (p1 := 93) (p2 := 74) ⟨_, rfl⟩ (by decide) rfl hx1 (fun hc => ?_) (fun hc => ?_)
  · have h := h.1 hc
    refine ax_mv 2 95 [some (.ref 222), some (ax_i x1)] [.ref 222, .ref 222] rfl ?_
    refine ax_gI (kI := 10) (pc' := 98) ⟨_, rfl⟩ fl_12_320 ay_222 rfl rfl rfl ?_
    obtain ⟨V1, eV1⟩ : ∃ W9 : ax_V, W9 = ax_u V 222 86 (V 222 10) := ⟨_, rfl⟩
    have h := h V1 eV1
    have hg1 : ax_g V1 := eV1 ▸ ax_u_g hg (hg _ _)
    refine ax_pI (kI := 86) (pc' := 101) ⟨_, rfl⟩ fl_12_444 ay_ok ay_222 rfl rfl rfl rfl eV1 rfl ?_
    refine ax_mv 1 102 [some (.ref 222), some (ax_i x1)] [ax_i x1] rfl ?_
    obtain ⟨o1, h⟩ := h
    exact ax_iret ⟨_, rfl⟩ rfl (ax_nbv o1) hx1 hg1 h
  · have h := h.2 hc
    refine ax_mv 1 75 [some (.ref 222), some (ax_i x1)] [.ref 222] rfl ?_
    refine ax_gI (kI := 68) (pc' := 78) ⟨_, rfl⟩ fl_12_294 ay_222 rfl rfl rfl ?_
    refine ax_mv 1 79 [some (.ref 222), some (ax_i x1)] [.ref 222, ax_i (V 222 68)] rfl ?_
    refine ax_gI (kI := 3) (pc' := 82) ⟨_, rfl⟩ fl_12_297 ay_222 rfl rfl rfl ?_
    refine ax_if2 (p1 := 93) (p2 := 85) ⟨_, rfl⟩ (by decide) rfl (hg _ _) (hg _ _) (fun hc => ?_) (fun hc => ?_)
    · have h := h.1 hc
      refine ax_mv 2 95 [some (.ref 222), some (ax_i x1)] [.ref 222, .ref 222] rfl ?_
      refine ax_gI (kI := 10) (pc' := 98) ⟨_, rfl⟩ fl_12_320 ay_222 rfl rfl rfl ?_
      obtain ⟨V2, eV2⟩ : ∃ W9 : ax_V, W9 = ax_u V 222 86 (V 222 10) := ⟨_, rfl⟩
      have h := h V2 eV2
      have hg2 : ax_g V2 := eV2 ▸ ax_u_g hg (hg _ _)
      refine ax_pI (kI := 86) (pc' := 101) ⟨_, rfl⟩ fl_12_444 ay_ok ay_222 rfl rfl rfl rfl eV2 rfl ?_
      refine ax_mv 1 102 [some (.ref 222), some (ax_i x1)] [ax_i x1] rfl ?_
      obtain ⟨o2, h⟩ := h
      exact ax_iret ⟨_, rfl⟩ rfl (ax_nbv o2) hx1 hg2 h
    · have h := h.2 (Int.not_le.mp hc)
      refine ax_mv 1 86 [some (.ref 222), some (ax_i x1)] [.ref 222] rfl ?_
      refine ax_callI (pc' := 89) ⟨_, rfl⟩ ml_12_534 (rest := []) rfl (fun ss hs => ⟨_, _, ay_222 ss hs⟩) (Nat.le_of_ble_eq_true rfl) rfl rfl h (fun r3 V3 hg3 hr3 h => ?_)
      refine ax_sti (i := 0) (k := 1) (n := 1) (pc' := 90) (L' := [some (.ref 222), some (ax_i r3)]) ⟨_, rfl⟩ rfl rfl rfl (Nat.le_of_ble_eq_true rfl) rfl rfl ?_
      refine ax_mv 1 70 [some (.ref 222), some (ax_i r3)] [] rfl ?_
      exact h
theorem r_Model_readAll {d : Nat} {V : ax_V} {Φ : Int → ax_V → Prop} {Θ : ax_V → Prop} (hg : ax_g V) (h : (∀ V1, V1 = ax_u V 222 68 0 → (∀ V2, V2 = ax_u V1 222 69 0 → (∀ V3, V3 = ax_u V2 222 10 0 → (∀ V4, V4 = ax_u V3 222 26 0 → (∀ V5, V5 = ax_u V4 222 44 0 → (∀ V6, V6 = ax_u V5 222 52 0 → (∀ V7, V7 = ax_u V6 222 55 0 → (∀ V8, V8 = ax_u V7 222 60 0 → (∀ V9, V9 = ax_u V8 222 77 0 → (∀ V10, V10 = ax_u V9 222 70 0 → (∀ V11, V11 = ax_u V10 222 71 0 → (∀ V12, V12 = ax_u V11 222 72 0 → (∀ V13, V13 = ax_u V12 222 73 (-1) → ax_I ay_lay d q_Model_readNode [.ref 222] V13 (fun r14 V14 => k_Model_readAll_70 d r14 V14 Φ Θ) Θ)))))))))))))) : ax_I ay_lay (d + 1) q_Model_readAll [.ref 222] V Φ Θ := by
  refine ax_T.of (M := m_Model_readAll) rfl (Nat.le_of_ble_eq_true rfl) ?_
  refine ax_mv 0 0 [some (.ref 222), none] [] rfl ?_
  refine ax_mv 2 2 [some (.ref 222), none] [ax_i 0, .ref 222] rfl ?_
  obtain ⟨V1, eV1⟩ : ∃ W9 : ax_V, W9 = ax_u V 222 68 0 := ⟨_, rfl⟩
  have h := h V1 eV1
  have hg1 : ax_g V1 := eV1 ▸ ax_u_g hg (by decide)
  refine ax_pI (kI := 68) (pc' := 5) ⟨_, rfl⟩ fl_12_294 ay_ok ay_222 rfl rfl rfl rfl eV1 rfl ?_
  refine ax_mv 2 7 [some (.ref 222), none] [ax_i 0, .ref 222] rfl ?_
  obtain ⟨V2, eV2⟩ : ∃ W9 : ax_V, W9 = ax_u V1 222 69 0 := ⟨_, rfl⟩
  have h := h V2 eV2
  have hg2 : ax_g V2 := eV2 ▸ ax_u_g hg1 (by decide)
  refine ax_pI (kI := 69) (pc' := 10) ⟨_, rfl⟩ fl_12_314 ay_ok ay_222 rfl rfl rfl rfl eV2 rfl ?_
  refine ax_mv 2 12 [some (.ref 222), none] [ax_i 0, .ref 222] rfl ?_
  obtain ⟨V3, eV3⟩ : ∃ W9 : ax_V, W9 = ax_u V2 222 10 0 := ⟨_, rfl⟩
  have h := h V3 eV3
  have hg3 : ax_g V3 := eV3 ▸ ax_u_g hg2 (by decide)
  refine ax_pI (kI := 10) (pc' := 15) ⟨_, rfl⟩ fl_12_320 ay_ok ay_222 rfl rfl rfl rfl eV3 rfl ?_
  refine ax_mv 2 17 [some (.ref 222), none] [ax_i 0, .ref 222] rfl ?_
  obtain ⟨V4, eV4⟩ : ∃ W9 : ax_V, W9 = ax_u V3 222 26 0 := ⟨_, rfl⟩
  have h := h V4 eV4
  have hg4 : ax_g V4 := eV4 ▸ ax_u_g hg3 (by decide)
  refine ax_pI (kI := 26) (pc' := 20) ⟨_, rfl⟩ fl_12_317 ay_ok ay_222 rfl rfl rfl rfl eV4 rfl ?_
  refine ax_mv 2 22 [some (.ref 222), none] [ax_i 0, .ref 222] rfl ?_
  obtain ⟨V5, eV5⟩ : ∃ W9 : ax_V, W9 = ax_u V4 222 44 0 := ⟨_, rfl⟩
  have h := h V5 eV5
  have hg5 : ax_g V5 := eV5 ▸ ax_u_g hg4 (by decide)
  refine ax_pI (kI := 44) (pc' := 25) ⟨_, rfl⟩ fl_12_414 ay_ok ay_222 rfl rfl rfl rfl eV5 rfl ?_
  refine ax_mv 2 27 [some (.ref 222), none] [ax_i 0, .ref 222] rfl ?_
  obtain ⟨V6, eV6⟩ : ∃ W9 : ax_V, W9 = ax_u V5 222 52 0 := ⟨_, rfl⟩
  have h := h V6 eV6
  have hg6 : ax_g V6 := eV6 ▸ ax_u_g hg5 (by decide)
  refine ax_pI (kI := 52) (pc' := 30) ⟨_, rfl⟩ fl_12_417 ay_ok ay_222 rfl rfl rfl rfl eV6 rfl ?_
  refine ax_mv 2 32 [some (.ref 222), none] [ax_i 0, .ref 222] rfl ?_
  obtain ⟨V7, eV7⟩ : ∃ W9 : ax_V, W9 = ax_u V6 222 55 0 := ⟨_, rfl⟩
  have h := h V7 eV7
  have hg7 : ax_g V7 := eV7 ▸ ax_u_g hg6 (by decide)
  refine ax_pI (kI := 55) (pc' := 35) ⟨_, rfl⟩ fl_12_423 ay_ok ay_222 rfl rfl rfl rfl eV7 rfl ?_
  refine ax_mv 2 37 [some (.ref 222), none] [ax_i 0, .ref 222] rfl ?_
  obtain ⟨V8, eV8⟩ : ∃ W9 : ax_V, W9 = ax_u V7 222 60 0 := ⟨_, rfl⟩
  have h := h V8 eV8
  have hg8 : ax_g V8 := eV8 ▸ ax_u_g hg7 (by decide)
  refine ax_pI (kI := 60) (pc' := 40) ⟨_, rfl⟩ fl_12_420 ay_ok ay_222 rfl rfl rfl rfl eV8 rfl ?_
  refine ax_mv 2 42 [some (.ref 222), none] [ax_i 0, .ref 222] rfl ?_
  obtain ⟨V9, eV9⟩ : ∃ W9 : ax_V, W9 = ax_u V8 222 77 0 := ⟨_, rfl⟩
  have h := h V9 eV9
  have hg9 : ax_g V9 := eV9 ▸ ax_u_g hg8 (by decide)
  refine ax_pI (kI := 77) (pc' := 45) ⟨_, rfl⟩ fl_12_441 ay_ok ay_222 rfl rfl rfl rfl eV9 rfl ?_
  refine ax_mv 2 47 [some (.ref 222), none] [ax_i 0, .ref 222] rfl ?_
  obtain ⟨V10, eV10⟩ : ∃ W9 : ax_V, W9 = ax_u V9 222 70 0 := ⟨_, rfl⟩
  have h := h V10 eV10
  have hg10 : ax_g V10 := eV10 ▸ ax_u_g hg9 (by decide)
  refine ax_pI (kI := 70) (pc' := 50) ⟨_, rfl⟩ fl_12_390 ay_ok ay_222 rfl rfl (ax_nbv (by decide)) rfl eV10 rfl ?_
  refine ax_mv 2 52 [some (.ref 222), none] [ax_i 0, .ref 222] rfl ?_
  obtain ⟨V11, eV11⟩ : ∃ W9 : ax_V, W9 = ax_u V10 222 71 0 := ⟨_, rfl⟩
  have h := h V11 eV11
  have hg11 : ax_g V11 := eV11 ▸ ax_u_g hg10 (by decide)
  refine ax_pI (kI := 71) (pc' := 55) ⟨_, rfl⟩ fl_12_345 ay_ok ay_222 rfl rfl (ax_nbv (by decide)) rfl eV11 rfl ?_
  refine ax_mv 2 57 [some (.ref 222), none] [ax_i 0, .ref 222] rfl ?_
  obtain ⟨V12, eV12⟩ : ∃ W9 : ax_V, W9 = ax_u V11 222 72 0 := ⟨_, rfl⟩
  have h := h V12 eV12
  have hg12 : ax_g V12 := eV12 ▸ ax_u_g hg11 (by decide)
  refine ax_pI (kI := 72) (pc' := 60) ⟨_, rfl⟩ fl_12_378 ay_ok ay_222 rfl rfl rfl rfl eV12 rfl ?_
  refine ax_mv 2 62 [some (.ref 222), none] [ax_i (-1), .ref 222] rfl ?_
  obtain ⟨V13, eV13⟩ : ∃ W9 : ax_V, W9 = ax_u V12 222 73 (-1) := ⟨_, rfl⟩
  have h := h V13 eV13
  have hg13 : ax_g V13 := eV13 ▸ ax_u_g hg12 (by decide)
  refine ax_pI (kI := 73) (pc' := 65) ⟨_, rfl⟩ fl_12_304 ay_ok ay_222 rfl rfl rfl rfl eV13 rfl ?_
  refine ax_mv 1 66 [some (.ref 222), none] [.ref 222] rfl ?_
  refine ax_callI (pc' := 69) ⟨_, rfl⟩ ml_12_534 (rest := []) rfl (fun ss hs => ⟨_, _, ay_222 ss hs⟩) (Nat.le_of_ble_eq_true rfl) rfl rfl h (fun r14 V14 hg14 hr14 h => ?_)
  refine ax_sti (i := 0) (k := 1) (n := 1) (pc' := 70) (L' := [some (.ref 222), some (ax_i r14)]) ⟨_, rfl⟩ rfl rfl rfl (Nat.le_of_ble_eq_true rfl) rfl rfl ?_
  exact h
abbrev k_Model_readNode_86 (d : Nat) (x1 : Int) (y2 : Option Value) (V : ax_V) (Φ : Int → ax_V → Prop) (Θ : ax_V → Prop) : Prop := ax_R ay_lay ax_t d m_Model_readNode 86 [some (.ref 222), some (ax_i x1), y2] [] V (ax_Ir Φ) Θ
abbrev k_Model_readNode_186 (d : Nat) (y1 : Option Value) (y2 : Option Value) (V : ax_V) (Φ : Int → ax_V → Prop) (Θ : ax_V → Prop) : Prop := ax_R ay_lay ax_t d m_Model_readNode 186 [some (.ref 222), y1, y2] [] V (ax_Ir Φ) Θ
abbrev k_Model_readNode_245 (d : Nat) (y1 : Option Value) (y2 : Option Value) (V : ax_V) (Φ : Int → ax_V → Prop) (Θ : ax_V → Prop) : Prop := ax_R ay_lay ax_t d m_Model_readNode 245 [some (.ref 222), y1, y2] [] V (ax_Ir Φ) Θ
set_option maxRecDepth 20000 in
theorem r_Model_readNode_86 {d : Nat} {V : ax_V} {Φ : Int → ax_V → Prop} {Θ : ax_V → Prop} {x1 : Int} {y2 : Option Value} (hg : ax_g V) (hx1 : ax_rg x1) (hy2 : ax_y y2) (h : ((26 ≤ x1 → ax_I ay_lay d q_Model_want [.ref 222, ax_i 40] V (fun r1 V1 => ((r1 = 0 → Φ 0 V1) ∧ (¬ r1 = 0 → ax_I ay_lay d q_Model_see [.ref 222] V1 (fun r2 V2 => ((r2 = 41 → k_Model_readNode_186 d (some (ax_i x1)) y2 V2 Φ Θ) ∧ (¬ r2 = 41 → ax_I ay_lay d q_Model_readFlows [.ref 222, ax_i 1] V2 (fun r3 V3 => ((r3 = 0 → Φ 0 V3) ∧ (¬ r3 = 0 → k_Model_readNode_186 d (some (ax_i x1)) y2 V3 Φ Θ))) Θ))) Θ))) Θ) ∧ (x1 < 26 → ax_I ay_lay d q_Model_at [.ref 222, ax_i x1] V (fun r4 V4 => (0 ≤ r4 ∧ r4 < 240) ∧ (∀ V5, V5 = ax_u V4 232 r4 0 → (0 ≤ r4 ∧ r4 < 240) ∧ (∀ V6, V6 = ax_u V5 233 r4 0 → (0 ≤ r4 ∧ r4 < 240) ∧ (∀ V7, V7 = ax_u V6 234 r4 (-1) → (0 ≤ r4 ∧ r4 < 240) ∧ (∀ V8, V8 = ax_u V7 235 r4 0 → (0 ≤ r4 ∧ r4 < 240) ∧ (∀ V9, V9 = ax_u V8 236 r4 0 → (0 ≤ r4 ∧ r4 < 240) ∧ (∀ V10, V10 = ax_u V9 237 r4 0 → (0 ≤ r4 ∧ r4 < 240) ∧ (∀ V11, V11 = ax_u V10 238 r4 (-1) → (0 ≤ r4 ∧ r4 < 240) ∧ (∀ V12, V12 = ax_u V11 239 r4 (-1) → k_Model_readNode_86 d (x1 + 1) (some (ax_i r4)) V12 Φ Θ))))))))) Θ))) : k_Model_readNode_86 d x1 y2 V Φ Θ := by
  refine ax_mv 1 87 [some (.ref 222), some (ax_i x1), y2] [ax_i x1] rfl ?_
  refine ax_bip (pc' := 89) ⟨_, rfl⟩ (by decide) rfl ?_
  refine ax_if2 (p1 := 160) (p2 := 92) ⟨_, rfl⟩ (by decide) rfl hx1 (by decide) (fun hc => ?_) (fun hc => ?_)
  · have h := h.1 hc
    refine ax_mv 1 161 [some (.ref 222), some (ax_i x1), y2] [.ref 222] rfl ?_
    refine ax_bip (pc' := 163) ⟨_, rfl⟩ (by decide) rfl ?_
    refine ax_callI (pc' := 166) ⟨_, rfl⟩ ml_12_366 (rest := []) rfl (fun ss hs => ⟨_, _, ay_222 ss hs⟩) (Nat.le_of_ble_eq_true rfl) rfl rfl h (fun r1 V1 hg1 hr1 h => ?_)
    refine ax_if (p1 := 203) (p2 := 169) ⟨_, rfl⟩ (by decide) rfl hr1 (fun hc => ?_) (fun hc => ?_)
    · have h := h.1 hc
      refine ax_mv 1 204 [some (.ref 222), some (ax_i x1), y2] [ax_i 0] rfl ?_
      exact ax_iret ⟨_, rfl⟩ rfl (ax_nbv (by decide)) (by decide) hg1 h
    · have h := h.2 hc
      refine ax_mv 1 170 [some (.ref 222), some (ax_i x1), y2] [.ref 222] rfl ?_
      refine ax_callI (pc' := 173) ⟨_, rfl⟩ ml_12_300 (rest := []) rfl (fun ss hs => ⟨_, _, ay_222 ss hs⟩) (Nat.le_of_ble_eq_true rfl) rfl rfl h (fun r2 V2 hg2 hr2 h => ?_)
      refine ax_bip (pc' := 175) ⟨_, rfl⟩ (by decide) rfl ?_
      refine ax_if2 (p1 := 186) (p2 := 178) ⟨_, rfl⟩ (by decide) rfl hr2 (by decide) (fun hc => ?_) (fun hc => ?_)
      · have h := h.1 hc
        exact h
      · have h := h.2 hc
        refine ax_mv 2 180 [some (.ref 222), some (ax_i x1), y2] [ax_i 1, .ref 222] rfl ?_
        refine ax_callI (pc' := 183) ⟨_, rfl⟩ ml_12_528 (rest := []) rfl (fun ss hs => ⟨_, _, ay_222 ss hs⟩) (Nat.le_of_ble_eq_true rfl) rfl rfl h (fun r3 V3 hg3 hr3 h => ?_)
        refine ax_if (p1 := 203) (p2 := 186) ⟨_, rfl⟩ (by decide) rfl hr3 (fun hc => ?_) (fun hc => ?_)
        · have h := h.1 hc
          refine ax_mv 1 204 [some (.ref 222), some (ax_i x1), y2] [ax_i 0] rfl ?_
          exact ax_iret ⟨_, rfl⟩ rfl (ax_nbv (by decide)) (by decide) hg3 h
        · have h := h.2 hc
          exact h
  · have h := h.2 (Int.not_le.mp hc)
    refine ax_mv 2 94 [some (.ref 222), some (ax_i x1), y2] [ax_i x1, .ref 222] rfl ?_
    refine ax_callI (pc' := 97) ⟨_, rfl⟩ ml_12_457 (rest := []) rfl (fun ss hs => ⟨_, _, ay_222 ss hs⟩) (Nat.le_of_ble_eq_true rfl) rfl rfl h (fun r4 V4 hg4 hr4 h => ?_)
    refine ax_sti (i := 0) (k := 2) (n := 1) (pc' := 98) (L' := [some (.ref 222), some (ax_i x1), some (ax_i r4)]) ⟨_, rfl⟩ rfl rfl rfl (Nat.le_of_ble_eq_true rfl) rfl rfl ?_
    refine ax_mv 1 99 [some (.ref 222), some (ax_i x1), some (ax_i r4)] [.ref 222] rfl ?_
    refine ax_gR (v := .ref 232) (pc' := 102) ⟨_, rfl⟩ fl_12_37 ay_222 rfl rfl ?_
    refine ax_mv 2 104 [some (.ref 222), some (ax_i x1), some (ax_i r4)] [ax_i 0, ax_i r4, .ref 232] rfl ?_
    obtain ⟨o1, h⟩ := h
    obtain ⟨V5, eV5⟩ : ∃ W9 : ax_V, W9 = ax_u V4 232 r4 0 := ⟨_, rfl⟩
    have h := h V5 eV5
    have hg5 : ax_g V5 := eV5 ▸ ax_u_g hg4 (by decide)
    refine ax_ist (n := 240) (pc' := 105) ⟨_, rfl⟩ ay_ok ay_232 (by decide) o1 eV5 rfl ?_
    refine ax_mv 1 106 [some (.ref 222), some (ax_i x1), some (ax_i r4)] [.ref 222] rfl ?_
    refine ax_gR (v := .ref 233) (pc' := 109) ⟨_, rfl⟩ fl_12_40 ay_222 rfl rfl ?_
    refine ax_mv 2 111 [some (.ref 222), some (ax_i x1), some (ax_i r4)] [ax_i 0, ax_i r4, .ref 233] rfl ?_
    obtain ⟨o2, h⟩ := h
    obtain ⟨V6, eV6⟩ : ∃ W9 : ax_V, W9 = ax_u V5 233 r4 0 := ⟨_, rfl⟩
    have h := h V6 eV6
    have hg6 : ax_g V6 := eV6 ▸ ax_u_g hg5 (by decide)
    refine ax_ist (n := 240) (pc' := 112) ⟨_, rfl⟩ ay_ok ay_233 (by decide) o2 eV6 rfl ?_
    refine ax_mv 1 113 [some (.ref 222), some (ax_i x1), some (ax_i r4)] [.ref 222] rfl ?_
    refine ax_gR (v := .ref 234) (pc' := 116) ⟨_, rfl⟩ fl_12_43 ay_222 rfl rfl ?_
    refine ax_mv 2 118 [some (.ref 222), some (ax_i x1), some (ax_i r4)] [ax_i (-1), ax_i r4, .ref 234] rfl ?_
    obtain ⟨o3, h⟩ := h
    obtain ⟨V7, eV7⟩ : ∃ W9 : ax_V, W9 = ax_u V6 234 r4 (-1) := ⟨_, rfl⟩
    have h := h V7 eV7
    have hg7 : ax_g V7 := eV7 ▸ ax_u_g hg6 (by decide)
    refine ax_ist (n := 240) (pc' := 119) ⟨_, rfl⟩ ay_ok ay_234 (by decide) o3 eV7 rfl ?_
    refine ax_mv 1 120 [some (.ref 222), some (ax_i x1), some (ax_i r4)] [.ref 222] rfl ?_
    refine ax_gR (v := .ref 235) (pc' := 123) ⟨_, rfl⟩ fl_12_46 ay_222 rfl rfl ?_
    refine ax_mv 2 125 [some (.ref 222), some (ax_i x1), some (ax_i r4)] [ax_i 0, ax_i r4, .ref 235] rfl ?_
    obtain ⟨o4, h⟩ := h
    obtain ⟨V8, eV8⟩ : ∃ W9 : ax_V, W9 = ax_u V7 235 r4 0 := ⟨_, rfl⟩
    have h := h V8 eV8
    have hg8 : ax_g V8 := eV8 ▸ ax_u_g hg7 (by decide)
    refine ax_ist (n := 240) (pc' := 126) ⟨_, rfl⟩ ay_ok ay_235 (by decide) o4 eV8 rfl ?_
    refine ax_mv 1 127 [some (.ref 222), some (ax_i x1), some (ax_i r4)] [.ref 222] rfl ?_
    refine ax_gR (v := .ref 236) (pc' := 130) ⟨_, rfl⟩ fl_12_49 ay_222 rfl rfl ?_
    refine ax_mv 2 132 [some (.ref 222), some (ax_i x1), some (ax_i r4)] [ax_i 0, ax_i r4, .ref 236] rfl ?_
    obtain ⟨o5, h⟩ := h
    obtain ⟨V9, eV9⟩ : ∃ W9 : ax_V, W9 = ax_u V8 236 r4 0 := ⟨_, rfl⟩
    have h := h V9 eV9
    have hg9 : ax_g V9 := eV9 ▸ ax_u_g hg8 (by decide)
    refine ax_bst (n := 240) (pc' := 133) ⟨_, rfl⟩ ay_ok ay_236 (by decide) o5 (by decide) eV9 rfl ?_
    refine ax_mv 1 134 [some (.ref 222), some (ax_i x1), some (ax_i r4)] [.ref 222] rfl ?_
    refine ax_gR (v := .ref 237) (pc' := 137) ⟨_, rfl⟩ fl_12_53 ay_222 rfl rfl ?_
    refine ax_mv 2 139 [some (.ref 222), some (ax_i x1), some (ax_i r4)] [ax_i 0, ax_i r4, .ref 237] rfl ?_
    obtain ⟨o6, h⟩ := h
    obtain ⟨V10, eV10⟩ : ∃ W9 : ax_V, W9 = ax_u V9 237 r4 0 := ⟨_, rfl⟩
    have h := h V10 eV10
    have hg10 : ax_g V10 := eV10 ▸ ax_u_g hg9 (by decide)
    refine ax_ist (n := 240) (pc' := 140) ⟨_, rfl⟩ ay_ok ay_237 (by decide) o6 eV10 rfl ?_
    refine ax_mv 1 141 [some (.ref 222), some (ax_i x1), some (ax_i r4)] [.ref 222] rfl ?_
    refine ax_gR (v := .ref 238) (pc' := 144) ⟨_, rfl⟩ fl_12_56 ay_222 rfl rfl ?_
    refine ax_mv 2 146 [some (.ref 222), some (ax_i x1), some (ax_i r4)] [ax_i (-1), ax_i r4, .ref 238] rfl ?_
    obtain ⟨o7, h⟩ := h
    obtain ⟨V11, eV11⟩ : ∃ W9 : ax_V, W9 = ax_u V10 238 r4 (-1) := ⟨_, rfl⟩
    have h := h V11 eV11
    have hg11 : ax_g V11 := eV11 ▸ ax_u_g hg10 (by decide)
    refine ax_ist (n := 240) (pc' := 147) ⟨_, rfl⟩ ay_ok ay_238 (by decide) o7 eV11 rfl ?_
    refine ax_mv 1 148 [some (.ref 222), some (ax_i x1), some (ax_i r4)] [.ref 222] rfl ?_
    refine ax_gR (v := .ref 239) (pc' := 151) ⟨_, rfl⟩ fl_12_59 ay_222 rfl rfl ?_
    refine ax_mv 2 153 [some (.ref 222), some (ax_i x1), some (ax_i r4)] [ax_i (-1), ax_i r4, .ref 239] rfl ?_
    obtain ⟨o8, h⟩ := h
    obtain ⟨V12, eV12⟩ : ∃ W9 : ax_V, W9 = ax_u V11 239 r4 (-1) := ⟨_, rfl⟩
    have h := h V12 eV12
    have hg12 : ax_g V12 := eV12 ▸ ax_u_g hg11 (by decide)
    refine ax_ist (n := 240) (pc' := 154) ⟨_, rfl⟩ ay_ok ay_239 (by decide) o8 eV12 rfl ?_
    refine ax_inc (x := x1) (pc' := 157) (L' := [some (.ref 222), some (ax_i (x1 + 1)), some (ax_i r4)]) ⟨_, rfl⟩ rfl rfl rfl rfl ?_
    refine ax_mv 1 86 [some (.ref 222), some (ax_i (x1 + 1)), some (ax_i r4)] [] rfl ?_
    exact h
set_option maxRecDepth 20000 in
theorem r_Model_readNode_186 {d : Nat} {V : ax_V} {Φ : Int → ax_V → Prop} {Θ : ax_V → Prop} {y1 : Option Value} {y2 : Option Value} (hg : ax_g V) (hy1 : ax_y y1) (hy2 : ax_y y2) (h : ax_I ay_lay d q_Model_want [.ref 222, ax_i 41] V (fun r1 V1 => ((r1 = 0 → Φ 0 V1) ∧ (¬ r1 = 0 → ax_I ay_lay d q_Model_readFlows [.ref 222, ax_i 2] V1 (fun r2 V2 => ((r2 = 0 → Φ 0 V2) ∧ (¬ r2 = 0 → ax_I ay_lay d q_Model_see [.ref 222] V2 (fun r3 V3 => ((r3 = 124 → ax_rg ((V3 222 68) + 1) ∧ (∀ V5, V5 = ax_u V3 222 68 ((V3 222 68) + 1) → ax_I ay_lay d q_Model_readFlows [.ref 222, ax_i 3] V5 (fun r6 V6 => ((r6 = 0 → Φ 0 V6) ∧ (¬ r6 = 0 → ax_I ay_lay d q_Model_want [.ref 222, ax_i 123] V6 (fun r7 V7 => ((r7 = 0 → Φ 0 V7) ∧ (¬ r7 = 0 → k_Model_readNode_245 d y1 y2 V7 Φ Θ))) Θ))) Θ)) ∧ (¬ r3 = 124 → ax_I ay_lay d q_Model_want [.ref 222, ax_i 123] V3 (fun r4 V4 => ((r4 = 0 → Φ 0 V4) ∧ (¬ r4 = 0 → k_Model_readNode_245 d y1 y2 V4 Φ Θ))) Θ))) Θ))) Θ))) Θ) : k_Model_readNode_186 d y1 y2 V Φ Θ := by
  refine ax_mv 1 187 [some (.ref 222), y1, y2] [.ref 222] rfl ?_
  refine ax_bip (pc' := 189) ⟨_, rfl⟩ (by decide) rfl ?_
  refine ax_callI (pc' := 192) ⟨_, rfl⟩ ml_12_366 (rest := []) rfl (fun ss hs => ⟨_, _, ay_222 ss hs⟩) (Nat.le_of_ble_eq_true rfl) rfl rfl h (fun r1 V1 hg1 hr1 h => ?_)
  refine ax_if (p1 := 203) (p2 := 195) ⟨_, rfl⟩ (by decide) rfl hr1 (fun hc => ?_) (fun hc => ?_)
  · have h := h.1 hc
    refine ax_mv 1 204 [some (.ref 222), y1, y2] [ax_i 0] rfl ?_
    exact ax_iret ⟨_, rfl⟩ rfl (ax_nbv (by decide)) (by decide) hg1 h
  · have h := h.2 hc
    refine ax_mv 2 197 [some (.ref 222), y1, y2] [ax_i 2, .ref 222] rfl ?_
    refine ax_callI (pc' := 200) ⟨_, rfl⟩ ml_12_528 (rest := []) rfl (fun ss hs => ⟨_, _, ay_222 ss hs⟩) (Nat.le_of_ble_eq_true rfl) rfl rfl h (fun r2 V2 hg2 hr2 h => ?_)
    refine ax_if (p1 := 205) (p2 := 203) ⟨_, rfl⟩ (by decide) rfl hr2 (fun hc => ?_) (fun hc => ?_)
    · have h := h.2 hc
      refine ax_mv 1 206 [some (.ref 222), y1, y2] [.ref 222] rfl ?_
      refine ax_callI (pc' := 209) ⟨_, rfl⟩ ml_12_300 (rest := []) rfl (fun ss hs => ⟨_, _, ay_222 ss hs⟩) (Nat.le_of_ble_eq_true rfl) rfl rfl h (fun r3 V3 hg3 hr3 h => ?_)
      refine ax_bip (pc' := 211) ⟨_, rfl⟩ (by decide) rfl ?_
      refine ax_if2 (p1 := 234) (p2 := 214) ⟨_, rfl⟩ (by decide) rfl hr3 (by decide) (fun hc => ?_) (fun hc => ?_)
      · have h := h.2 hc
        refine ax_mv 1 235 [some (.ref 222), y1, y2] [.ref 222] rfl ?_
        refine ax_bip (pc' := 237) ⟨_, rfl⟩ (by decide) rfl ?_
        refine ax_callI (pc' := 240) ⟨_, rfl⟩ ml_12_366 (rest := []) rfl (fun ss hs => ⟨_, _, ay_222 ss hs⟩) (Nat.le_of_ble_eq_true rfl) rfl rfl h (fun r4 V4 hg4 hr4 h => ?_)
        refine ax_if (p1 := 245) (p2 := 243) ⟨_, rfl⟩ (by decide) rfl hr4 (fun hc => ?_) (fun hc => ?_)
        · have h := h.2 hc
          exact h
        · have h := h.1 (Classical.not_not.mp hc)
          refine ax_mv 1 244 [some (.ref 222), y1, y2] [ax_i 0] rfl ?_
          exact ax_iret ⟨_, rfl⟩ rfl (ax_nbv (by decide)) (by decide) hg4 h
      · have h := h.1 (Classical.not_not.mp hc)
        refine ax_mv 2 216 [some (.ref 222), y1, y2] [.ref 222, .ref 222] rfl ?_
        refine ax_gI (kI := 68) (pc' := 219) ⟨_, rfl⟩ fl_12_294 ay_222 rfl rfl rfl ?_
        refine ax_mv 1 220 [some (.ref 222), y1, y2] [ax_i 1, ax_i (V3 222 68), .ref 222] rfl ?_
        refine ax_add (pc' := 221) ⟨_, rfl⟩ rfl ?_
        obtain ⟨o9, h⟩ := h
        obtain ⟨V5, eV5⟩ : ∃ W9 : ax_V, W9 = ax_u V3 222 68 ((V3 222 68) + 1) := ⟨_, rfl⟩
        have h := h V5 eV5
        have hg5 : ax_g V5 := eV5 ▸ ax_u_g hg3 o9
        refine ax_pI (kI := 68) (pc' := 224) ⟨_, rfl⟩ fl_12_294 ay_ok ay_222 rfl rfl rfl rfl eV5 rfl ?_
        refine ax_mv 2 226 [some (.ref 222), y1, y2] [ax_i 3, .ref 222] rfl ?_
        refine ax_callI (pc' := 229) ⟨_, rfl⟩ ml_12_528 (rest := []) rfl (fun ss hs => ⟨_, _, ay_222 ss hs⟩) (Nat.le_of_ble_eq_true rfl) rfl rfl h (fun r6 V6 hg6 hr6 h => ?_)
        refine ax_if (p1 := 234) (p2 := 232) ⟨_, rfl⟩ (by decide) rfl hr6 (fun hc => ?_) (fun hc => ?_)
        · have h := h.2 hc
          refine ax_mv 1 235 [some (.ref 222), y1, y2] [.ref 222] rfl ?_
          refine ax_bip (pc' := 237) ⟨_, rfl⟩ (by decide) rfl ?_
          refine ax_callI (pc' := 240) ⟨_, rfl⟩ ml_12_366 (rest := []) rfl (fun ss hs => ⟨_, _, ay_222 ss hs⟩) (Nat.le_of_ble_eq_true rfl) rfl rfl h (fun r7 V7 hg7 hr7 h => ?_)
          refine ax_if (p1 := 245) (p2 := 243) ⟨_, rfl⟩ (by decide) rfl hr7 (fun hc => ?_) (fun hc => ?_)
          · have h := h.2 hc
            exact h
          · have h := h.1 (Classical.not_not.mp hc)
            refine ax_mv 1 244 [some (.ref 222), y1, y2] [ax_i 0] rfl ?_
            exact ax_iret ⟨_, rfl⟩ rfl (ax_nbv (by decide)) (by decide) hg7 h
        · have h := h.1 (Classical.not_not.mp hc)
          refine ax_mv 1 233 [some (.ref 222), y1, y2] [ax_i 0] rfl ?_
          exact ax_iret ⟨_, rfl⟩ rfl (ax_nbv (by decide)) (by decide) hg6 h
    · have h := h.1 (Classical.not_not.mp hc)
      refine ax_mv 1 204 [some (.ref 222), y1, y2] [ax_i 0] rfl ?_
      exact ax_iret ⟨_, rfl⟩ rfl (ax_nbv (by decide)) (by decide) hg2 h
set_option maxRecDepth 20000 in
theorem r_Model_readNode_245 {d : Nat} {V : ax_V} {Φ : Int → ax_V → Prop} {Θ : ax_V → Prop} {y1 : Option Value} {y2 : Option Value} (hg : ax_g V) (hy1 : ax_y y1) (hy2 : ax_y y2) (h : ax_I ay_lay d q_Model_see [.ref 222] V (fun r1 V1 => ((r1 = 125 → ax_rg ((V1 222 68) + 1) ∧ (∀ V2, V2 = ax_u V1 222 68 ((V1 222 68) + 1) → ax_rg ((V2 222 10) + 1) ∧ (∀ V3, V3 = ax_u V2 222 10 ((V2 222 10) + 1) → Φ 1 V3))) ∧ (¬ r1 = 125 → ax_I ay_lay d q_Model_see [.ref 222] V1 (fun r4 V4 => ((r4 = 36 → ax_I ay_lay d q_Model_readAutomaton [.ref 222] V4 (fun r6 V6 => ((r6 = 0 → Φ 0 V6) ∧ (¬ r6 = 0 → k_Model_readNode_245 d y1 y2 V6 Φ Θ))) Θ) ∧ (¬ r4 = 36 → ax_I ay_lay d q_Model_readEquation [.ref 222, ax_i (-1), ax_i (-1)] V4 (fun r5 V5 => ((r5 = 0 → Φ 0 V5) ∧ (¬ r5 = 0 → k_Model_readNode_245 d y1 y2 V5 Φ Θ))) Θ))) Θ))) Θ) : k_Model_readNode_245 d y1 y2 V Φ Θ := by
  refine ax_mv 1 246 [some (.ref 222), y1, y2] [.ref 222] rfl ?_
  refine ax_callI (pc' := 249) ⟨_, rfl⟩ ml_12_300 (rest := []) rfl (fun ss hs => ⟨_, _, ay_222 ss hs⟩) (Nat.le_of_ble_eq_true rfl) rfl rfl h (fun r1 V1 hg1 hr1 h => ?_)
  refine ax_bip (pc' := 251) ⟨_, rfl⟩ (by decide) rfl ?_
  refine ax_if2 (p1 := 284) (p2 := 254) ⟨_, rfl⟩ (by decide) rfl hr1 (by decide) (fun hc => ?_) (fun hc => ?_)
  · have h := h.1 hc
    refine ax_mv 2 286 [some (.ref 222), y1, y2] [.ref 222, .ref 222] rfl ?_
    refine ax_gI (kI := 68) (pc' := 289) ⟨_, rfl⟩ fl_12_294 ay_222 rfl rfl rfl ?_
    refine ax_mv 1 290 [some (.ref 222), y1, y2] [ax_i 1, ax_i (V1 222 68), .ref 222] rfl ?_
    refine ax_add (pc' := 291) ⟨_, rfl⟩ rfl ?_
    obtain ⟨o10, h⟩ := h
    obtain ⟨V2, eV2⟩ : ∃ W9 : ax_V, W9 = ax_u V1 222 68 ((V1 222 68) + 1) := ⟨_, rfl⟩
    have h := h V2 eV2
    have hg2 : ax_g V2 := eV2 ▸ ax_u_g hg1 o10
    refine ax_pI (kI := 68) (pc' := 294) ⟨_, rfl⟩ fl_12_294 ay_ok ay_222 rfl rfl rfl rfl eV2 rfl ?_
    refine ax_mv 2 296 [some (.ref 222), y1, y2] [.ref 222, .ref 222] rfl ?_
    refine ax_gI (kI := 10) (pc' := 299) ⟨_, rfl⟩ fl_12_320 ay_222 rfl rfl rfl ?_
    refine ax_mv 1 300 [some (.ref 222), y1, y2] [ax_i 1, ax_i (V2 222 10), .ref 222] rfl ?_
    refine ax_add (pc' := 301) ⟨_, rfl⟩ rfl ?_
    obtain ⟨o11, h⟩ := h
    obtain ⟨V3, eV3⟩ : ∃ W9 : ax_V, W9 = ax_u V2 222 10 ((V2 222 10) + 1) := ⟨_, rfl⟩
    have h := h V3 eV3
    have hg3 : ax_g V3 := eV3 ▸ ax_u_g hg2 o11
    refine ax_pI (kI := 10) (pc' := 304) ⟨_, rfl⟩ fl_12_320 ay_ok ay_222 rfl rfl rfl rfl eV3 rfl ?_
    refine ax_mv 1 305 [some (.ref 222), y1, y2] [ax_i 1] rfl ?_
    exact ax_iret ⟨_, rfl⟩ rfl (ax_nbv (by decide)) (by decide) hg3 h
  · have h := h.2 hc
    refine ax_mv 1 255 [some (.ref 222), y1, y2] [.ref 222] rfl ?_
    refine ax_callI (pc' := 258) ⟨_, rfl⟩ ml_12_300 (rest := []) rfl (fun ss hs => ⟨_, _, ay_222 ss hs⟩) (Nat.le_of_ble_eq_true rfl) rfl rfl h (fun r4 V4 hg4 hr4 h => ?_)
    refine ax_bip (pc' := 260) ⟨_, rfl⟩ (by decide) rfl ?_
    refine ax_if2 (p1 := 273) (p2 := 263) ⟨_, rfl⟩ (by decide) rfl hr4 (by decide) (fun hc => ?_) (fun hc => ?_)
    · have h := h.2 hc
      refine ax_mv 3 276 [some (.ref 222), y1, y2] [ax_i (-1), ax_i (-1), .ref 222] rfl ?_
      refine ax_callI (pc' := 279) ⟨_, rfl⟩ ml_12_426 (rest := []) rfl (fun ss hs => ⟨_, _, ay_222 ss hs⟩) (Nat.le_of_ble_eq_true rfl) rfl rfl h (fun r5 V5 hg5 hr5 h => ?_)
      refine ax_if (p1 := 245) (p2 := 282) ⟨_, rfl⟩ (by decide) rfl hr5 (fun hc => ?_) (fun hc => ?_)
      · have h := h.2 hc
        exact h
      · have h := h.1 (Classical.not_not.mp hc)
        refine ax_mv 1 283 [some (.ref 222), y1, y2] [ax_i 0] rfl ?_
        exact ax_iret ⟨_, rfl⟩ rfl (ax_nbv (by decide)) (by decide) hg5 h
    · have h := h.1 (Classical.not_not.mp hc)
      refine ax_mv 1 264 [some (.ref 222), y1, y2] [.ref 222] rfl ?_
      refine ax_callI (pc' := 267) ⟨_, rfl⟩ ml_12_531 (rest := []) rfl (fun ss hs => ⟨_, _, ay_222 ss hs⟩) (Nat.le_of_ble_eq_true rfl) rfl rfl h (fun r6 V6 hg6 hr6 h => ?_)
      refine ax_if (p1 := 245) (p2 := 270) ⟨_, rfl⟩ (by decide) rfl hr6 (fun hc => ?_) (fun hc => ?_)
      · have h := h.2 hc
        exact h
      · have h := h.1 (Classical.not_not.mp hc)
        refine ax_mv 2 283 [some (.ref 222), y1, y2] [ax_i 0] rfl ?_
        exact ax_iret ⟨_, rfl⟩ rfl (ax_nbv (by decide)) (by decide) hg6 h
set_option maxRecDepth 20000 in
theorem r_Model_readNode {d : Nat} {V : ax_V} {Φ : Int → ax_V → Prop} {Θ : ax_V → Prop} (hg : ax_g V) (h : ax_I ay_lay d q_Model_isName [.ref 222] V (fun r1 V1 => ((r1 = 0 → Φ 0 V1) ∧ (¬ r1 = 0 → ((V1 222 10 = 8 → Φ 0 V1) ∧ (¬ V1 222 10 = 8 → ax_I ay_lay d q_Model_see [.ref 222] V1 (fun r2 V2 => (0 ≤ V1 222 10 ∧ V1 222 10 < 9) ∧ (∀ V3, V3 = ax_u V2 226 (V1 222 10) r2 → (0 ≤ V3 222 10 ∧ V3 222 10 < 9) ∧ (∀ V4, V4 = ax_u V3 287 (V3 222 10) (V3 222 68) → ax_rg ((V4 222 68) + 1) ∧ (∀ V5, V5 = ax_u V4 222 68 ((V4 222 68) + 1) → (0 ≤ V5 222 10 ∧ V5 222 10 < 9) ∧ (∀ V6, V6 = ax_u V5 227 (V5 222 10) 0 → (0 ≤ V6 222 10 ∧ V6 222 10 < 9) ∧ (∀ V7, V7 = ax_u V6 228 (V6 222 10) 0 → (0 ≤ V7 222 10 ∧ V7 222 10 < 9) ∧ (∀ V8, V8 = ax_u V7 229 (V7 222 10) 0 → k_Model_readNode_86 d 0 none V8 Φ Θ))))))) Θ))))) Θ) : ax_I ay_lay (d + 1) q_Model_readNode [.ref 222] V Φ Θ := by
  refine ax_T.of (M := m_Model_readNode) rfl (Nat.le_of_ble_eq_true rfl) ?_
  refine ax_mv 0 0 [some (.ref 222), none, none] [] rfl ?_
  refine ax_mv 1 1 [some (.ref 222), none, none] [.ref 222] rfl ?_
  refine ax_callI (pc' := 4) ⟨_, rfl⟩ ml_12_405 (rest := []) rfl (fun ss hs => ⟨_, _, ay_222 ss hs⟩) (Nat.le_of_ble_eq_true rfl) rfl rfl h (fun r1 V1 hg1 hr1 h => ?_)
  refine ax_if (p1 := 16) (p2 := 7) ⟨_, rfl⟩ (by decide) rfl hr1 (fun hc => ?_) (fun hc => ?_)
  · have h := h.1 hc
    refine ax_mv 1 17 [some (.ref 222), none, none] [ax_i 0] rfl ?_
    exact ax_iret ⟨_, rfl⟩ rfl (ax_nbv (by decide)) (by decide) hg1 h
  · have h := h.2 hc
    refine ax_mv 1 8 [some (.ref 222), none, none] [.ref 222] rfl ?_
    refine ax_gI (kI := 10) (pc' := 11) ⟨_, rfl⟩ fl_12_320 ay_222 rfl rfl rfl ?_
    refine ax_bip (pc' := 13) ⟨_, rfl⟩ (by decide) rfl ?_
    refine ax_if2 (p1 := 18) (p2 := 16) ⟨_, rfl⟩ (by decide) rfl (hg1 _ _) (by decide) (fun hc => ?_) (fun hc => ?_)
    · have h := h.2 hc
      refine ax_mv 1 19 [some (.ref 222), none, none] [.ref 222] rfl ?_
      refine ax_gR (v := .ref 226) (pc' := 22) ⟨_, rfl⟩ fl_12_19 ay_222 rfl rfl ?_
      refine ax_mv 1 23 [some (.ref 222), none, none] [.ref 222, .ref 226] rfl ?_
      refine ax_gI (kI := 10) (pc' := 26) ⟨_, rfl⟩ fl_12_320 ay_222 rfl rfl rfl ?_
      refine ax_mv 1 27 [some (.ref 222), none, none] [.ref 222, ax_i (V1 222 10), .ref 226] rfl ?_
      refine ax_callI (pc' := 30) ⟨_, rfl⟩ ml_12_300 (rest := [ax_i (V1 222 10), .ref 226]) rfl (fun ss hs => ⟨_, _, ay_222 ss hs⟩) (Nat.le_of_ble_eq_true rfl) rfl rfl h (fun r2 V2 hg2 hr2 h => ?_)
      obtain ⟨o12, h⟩ := h
      obtain ⟨V3, eV3⟩ : ∃ W9 : ax_V, W9 = ax_u V2 226 (V1 222 10) r2 := ⟨_, rfl⟩
      have h := h V3 eV3
      have hg3 : ax_g V3 := eV3 ▸ ax_u_g hg2 hr2
      refine ax_ist (n := 9) (pc' := 31) ⟨_, rfl⟩ ay_ok ay_226 (by decide) o12 eV3 rfl ?_
      refine ax_mv 1 32 [some (.ref 222), none, none] [.ref 222] rfl ?_
      refine ax_gR (v := .ref 287) (pc' := 35) ⟨_, rfl⟩ fl_12_203 ay_222 rfl rfl ?_
      refine ax_mv 1 36 [some (.ref 222), none, none] [.ref 222, .ref 287] rfl ?_
      refine ax_gI (kI := 10) (pc' := 39) ⟨_, rfl⟩ fl_12_320 ay_222 rfl rfl rfl ?_
      refine ax_mv 1 40 [some (.ref 222), none, none] [.ref 222, ax_i (V3 222 10), .ref 287] rfl ?_
      refine ax_gI (kI := 68) (pc' := 43) ⟨_, rfl⟩ fl_12_294 ay_222 rfl rfl rfl ?_
      obtain ⟨o13, h⟩ := h
      obtain ⟨V4, eV4⟩ : ∃ W9 : ax_V, W9 = ax_u V3 287 (V3 222 10) (V3 222 68) := ⟨_, rfl⟩
      have h := h V4 eV4
      have hg4 : ax_g V4 := eV4 ▸ ax_u_g hg3 (hg3 _ _)
      refine ax_ist (n := 9) (pc' := 44) ⟨_, rfl⟩ ay_ok ay_287 (by decide) o13 eV4 rfl ?_
      refine ax_mv 2 46 [some (.ref 222), none, none] [.ref 222, .ref 222] rfl ?_
      refine ax_gI (kI := 68) (pc' := 49) ⟨_, rfl⟩ fl_12_294 ay_222 rfl rfl rfl ?_
      refine ax_mv 1 50 [some (.ref 222), none, none] [ax_i 1, ax_i (V4 222 68), .ref 222] rfl ?_
      refine ax_add (pc' := 51) ⟨_, rfl⟩ rfl ?_
      obtain ⟨o14, h⟩ := h
      obtain ⟨V5, eV5⟩ : ∃ W9 : ax_V, W9 = ax_u V4 222 68 ((V4 222 68) + 1) := ⟨_, rfl⟩
      have h := h V5 eV5
      have hg5 : ax_g V5 := eV5 ▸ ax_u_g hg4 o14
      refine ax_pI (kI := 68) (pc' := 54) ⟨_, rfl⟩ fl_12_294 ay_ok ay_222 rfl rfl rfl rfl eV5 rfl ?_
      refine ax_mv 1 55 [some (.ref 222), none, none] [.ref 222] rfl ?_
      refine ax_gR (v := .ref 227) (pc' := 58) ⟨_, rfl⟩ fl_12_22 ay_222 rfl rfl ?_
      refine ax_mv 1 59 [some (.ref 222), none, none] [.ref 222, .ref 227] rfl ?_
      refine ax_gI (kI := 10) (pc' := 62) ⟨_, rfl⟩ fl_12_320 ay_222 rfl rfl rfl ?_
      refine ax_mv 1 63 [some (.ref 222), none, none] [ax_i 0, ax_i (V5 222 10), .ref 227] rfl ?_
      obtain ⟨o15, h⟩ := h
      obtain ⟨V6, eV6⟩ : ∃ W9 : ax_V, W9 = ax_u V5 227 (V5 222 10) 0 := ⟨_, rfl⟩
      have h := h V6 eV6
      have hg6 : ax_g V6 := eV6 ▸ ax_u_g hg5 (by decide)
      refine ax_ist (n := 9) (pc' := 64) ⟨_, rfl⟩ ay_ok ay_227 (by decide) o15 eV6 rfl ?_
      refine ax_mv 1 65 [some (.ref 222), none, none] [.ref 222] rfl ?_
      refine ax_gR (v := .ref 228) (pc' := 68) ⟨_, rfl⟩ fl_12_25 ay_222 rfl rfl ?_
      refine ax_mv 1 69 [some (.ref 222), none, none] [.ref 222, .ref 228] rfl ?_
      refine ax_gI (kI := 10) (pc' := 72) ⟨_, rfl⟩ fl_12_320 ay_222 rfl rfl rfl ?_
      refine ax_mv 1 73 [some (.ref 222), none, none] [ax_i 0, ax_i (V6 222 10), .ref 228] rfl ?_
      obtain ⟨o16, h⟩ := h
      obtain ⟨V7, eV7⟩ : ∃ W9 : ax_V, W9 = ax_u V6 228 (V6 222 10) 0 := ⟨_, rfl⟩
      have h := h V7 eV7
      have hg7 : ax_g V7 := eV7 ▸ ax_u_g hg6 (by decide)
      refine ax_ist (n := 9) (pc' := 74) ⟨_, rfl⟩ ay_ok ay_228 (by decide) o16 eV7 rfl ?_
      refine ax_mv 1 75 [some (.ref 222), none, none] [.ref 222] rfl ?_
      refine ax_gR (v := .ref 229) (pc' := 78) ⟨_, rfl⟩ fl_12_28 ay_222 rfl rfl ?_
      refine ax_mv 1 79 [some (.ref 222), none, none] [.ref 222, .ref 229] rfl ?_
      refine ax_gI (kI := 10) (pc' := 82) ⟨_, rfl⟩ fl_12_320 ay_222 rfl rfl rfl ?_
      refine ax_mv 1 83 [some (.ref 222), none, none] [ax_i 0, ax_i (V7 222 10), .ref 229] rfl ?_
      obtain ⟨o17, h⟩ := h
      obtain ⟨V8, eV8⟩ : ∃ W9 : ax_V, W9 = ax_u V7 229 (V7 222 10) 0 := ⟨_, rfl⟩
      have h := h V8 eV8
      have hg8 : ax_g V8 := eV8 ▸ ax_u_g hg7 (by decide)
      refine ax_ist (n := 9) (pc' := 84) ⟨_, rfl⟩ ay_ok ay_229 (by decide) o17 eV8 rfl ?_
      refine ax_mv 1 85 [some (.ref 222), none, none] [ax_i 0] rfl ?_
      refine ax_sti (i := 0) (k := 1) (n := 1) (pc' := 86) (L' := [some (.ref 222), some (ax_i 0), none]) ⟨_, rfl⟩ rfl rfl rfl (Nat.le_of_ble_eq_true rfl) rfl rfl ?_
      exact h
    · have h := h.1 (Classical.not_not.mp hc)
      refine ax_mv 1 17 [some (.ref 222), none, none] [ax_i 0] rfl ?_
      exact ax_iret ⟨_, rfl⟩ rfl (ax_nbv (by decide)) (by decide) hg1 h
theorem r_Model_isName {d : Nat} {V : ax_V} {Φ : Int → ax_V → Prop} {Θ : ax_V → Prop} (hg : ax_g V) (h : ax_I ay_lay d q_Model_see [.ref 222] V (fun r1 V1 => ax_I ay_lay d q_Model_within [ax_i r1, ax_i 65, ax_i 72] V1 (fun r2 V2 => (r2 = 0 ∨ r2 = 1) ∧ Φ r2 V2) (fun _ => False)) Θ) : ax_I ay_lay (d + 1) q_Model_isName [.ref 222] V Φ Θ := by
  refine ax_T.of (M := m_Model_isName) rfl (Nat.le_of_ble_eq_true rfl) ?_
  refine ax_mv 0 0 [some (.ref 222)] [] rfl ?_
  refine ax_mv 1 1 [some (.ref 222)] [.ref 222] rfl ?_
  refine ax_callI (pc' := 4) ⟨_, rfl⟩ ml_12_300 (rest := []) rfl (fun ss hs => ⟨_, _, ay_222 ss hs⟩) (Nat.le_of_ble_eq_true rfl) rfl rfl h (fun r1 V1 hg1 hr1 h => ?_)
  refine ax_bip (pc' := 6) ⟨_, rfl⟩ (by decide) rfl ?_
  refine ax_bip (pc' := 8) ⟨_, rfl⟩ (by decide) rfl ?_
  refine ax_callS (pc' := 11) ⟨_, rfl⟩ ml_12_307 (Nat.le_of_ble_eq_true rfl) (Nat.le_of_ble_eq_true rfl) rfl h (fun r2 V2 hg2 hr2 h => ?_)
  refine ax_mv 0 11 [some (.ref 222)] [ax_i r2] rfl ?_
  obtain ⟨o1, h⟩ := h
  exact ax_iret ⟨_, rfl⟩ rfl (ax_nbv o1) hr2 hg2 h
theorem r_Model_see {d : Nat} {V : ax_V} {Φ : Int → ax_V → Prop} {Θ : ax_V → Prop} (hg : ax_g V) (h : ((V 222 3 ≤ V 222 68 → Φ 0 V) ∧ (V 222 68 < V 222 3 → (0 ≤ V 222 68 ∧ V 222 68 < 700) ∧ Φ (V 224 (V 222 68)) V))) : ax_I ay_lay (d + 1) q_Model_see [.ref 222] V Φ Θ := by
  refine ax_T.of (M := m_Model_see) rfl (Nat.le_of_ble_eq_true rfl) ?_
  refine ax_mv 0 0 [some (.ref 222)] [] rfl ?_
  refine ax_mv 1 1 [some (.ref 222)] [.ref 222] rfl ?_
  refine ax_gI (kI := 68) (pc' := 4) ⟨_, rfl⟩ fl_12_294 ay_222 rfl rfl rfl ?_
  refine ax_mv 1 5 [some (.ref 222)] [.ref 222, ax_i (V 222 68)] rfl ?_
  refine ax_gI (kI := 3) (pc' := 8) ⟨_, rfl⟩ fl_12_297 ay_222 rfl rfl rfl ?_
  refine ax_if2 (p1 := 23) (p2 := 11) ⟨_, rfl⟩ (by decide) rfl (hg _ _) (hg _ _) (fun hc => ?_) (fun hc => ?_)
  · have h := h.1 hc
    refine ax_mv 1 24 [some (.ref 222)] [ax_i 0] rfl ?_
    exact ax_iret ⟨_, rfl⟩ rfl rfl (by decide) hg h
  · have h := h.2 (Int.not_le.mp hc)
    refine ax_mv 1 12 [some (.ref 222)] [.ref 222] rfl ?_
    refine ax_gR (v := .ref 224) (pc' := 15) ⟨_, rfl⟩ fl_12_13 ay_222 rfl rfl ?_
    refine ax_mv 1 16 [some (.ref 222)] [.ref 222, .ref 224] rfl ?_
    refine ax_gI (kI := 68) (pc' := 19) ⟨_, rfl⟩ fl_12_294 ay_222 rfl rfl rfl ?_
    obtain ⟨o1, h⟩ := h
    refine ax_ild (n := 700) (pc' := 20) ⟨_, rfl⟩ ay_224 (by decide) o1 rfl ?_
    refine ax_mv 1 24 [some (.ref 222)] [ax_i (V 224 (V 222 68))] rfl ?_
    exact ax_iret ⟨_, rfl⟩ rfl rfl (hg _ _) hg h
theorem r_Model_within {d : Nat} {V : ax_V} {Φ : Int → ax_V → Prop} {Θ : ax_V → Prop} {x0 : Int} {x1 : Int} {x2 : Int} (hg : ax_g V) (hx0 : ax_rg x0) (hx1 : ax_rg x1) (hx2 : ax_rg x2) (h : ((x0 < x1 → Φ 0 V) ∧ (x1 ≤ x0 → ((x2 < x0 → Φ 0 V) ∧ (x0 ≤ x2 → Φ 1 V))))) : ax_I ay_lay (d + 1) q_Model_within [ax_i x0, ax_i x1, ax_i x2] V Φ Θ := by
  refine ax_T.of (M := m_Model_within) rfl (Nat.le_of_ble_eq_true rfl) ?_
  refine ax_mv 0 0 [some (ax_i x0), some (ax_i x1), some (ax_i x2)] [] rfl ?_
  refine ax_mv 2 2 [some (ax_i x0), some (ax_i x1), some (ax_i x2)] [ax_i x1, ax_i x0] rfl ?_
  refine ax_if2 (p1 := 14) (p2 := 5) ⟨_, rfl⟩ (by decide) rfl hx0 hx1 (fun hc => ?_) (fun hc => ?_)
  · have h := h.1 hc
    refine ax_mv 1 15 [some (ax_i x0), some (ax_i x1), some (ax_i x2)] [ax_i 0] rfl ?_
    exact ax_iret ⟨_, rfl⟩ rfl (ax_nbv (by decide)) (by decide) hg h
  · have h := h.2 (Int.not_lt.mp hc)
    refine ax_mv 2 7 [some (ax_i x0), some (ax_i x1), some (ax_i x2)] [ax_i x2, ax_i x0] rfl ?_
    refine ax_if2 (p1 := 14) (p2 := 10) ⟨_, rfl⟩ (by decide) rfl hx0 hx2 (fun hc => ?_) (fun hc => ?_)
    · have h := h.1 hc
      refine ax_mv 1 15 [some (ax_i x0), some (ax_i x1), some (ax_i x2)] [ax_i 0] rfl ?_
      exact ax_iret ⟨_, rfl⟩ rfl (ax_nbv (by decide)) (by decide) hg h
    · have h := h.2 (Int.not_lt.mp hc)
      refine ax_mv 2 15 [some (ax_i x0), some (ax_i x1), some (ax_i x2)] [ax_i 1] rfl ?_
      exact ax_iret ⟨_, rfl⟩ rfl (ax_nbv (by decide)) (by decide) hg h
theorem r_Model_at {d : Nat} {V : ax_V} {Φ : Int → ax_V → Prop} {Θ : ax_V → Prop} {x1 : Int} (hg : ax_g V) (hx1 : ax_rg x1) (h : ax_rg ((26 * (V 222 10)) + x1) ∧ Φ ((26 * (V 222 10)) + x1) V) : ax_I ay_lay (d + 1) q_Model_at [.ref 222, ax_i x1] V Φ Θ := by
  refine ax_T.of (M := m_Model_at) rfl (Nat.le_of_ble_eq_true rfl) ?_
  refine ax_mv 0 0 [some (.ref 222), some (ax_i x1)] [] rfl ?_
  refine ax_bip (pc' := 2) ⟨_, rfl⟩ (by decide) rfl ?_
  refine ax_mv 1 3 [some (.ref 222), some (ax_i x1)] [.ref 222, ax_i 26] rfl ?_
  refine ax_gI (kI := 10) (pc' := 6) ⟨_, rfl⟩ fl_12_320 ay_222 rfl rfl rfl ?_
  refine ax_mul (pc' := 7) ⟨_, rfl⟩ rfl ?_
  refine ax_mv 1 8 [some (.ref 222), some (ax_i x1)] [ax_i x1, ax_i (26 * (V 222 10))] rfl ?_
  refine ax_add (pc' := 9) ⟨_, rfl⟩ rfl ?_
  obtain ⟨o1, h⟩ := h
  exact ax_iret ⟨_, rfl⟩ rfl rfl o1 hg h
theorem r_Model_want {d : Nat} {V : ax_V} {Φ : Int → ax_V → Prop} {Θ : ax_V → Prop} {x1 : Int} (hg : ax_g V) (hx1 : ax_rg x1) (h : ax_I ay_lay d q_Model_see [.ref 222] V (fun r1 V1 => ((r1 = x1 → ax_rg ((V1 222 68) + 1) ∧ (∀ V2, V2 = ax_u V1 222 68 ((V1 222 68) + 1) → Φ 1 V2)) ∧ (¬ r1 = x1 → Φ 0 V1))) Θ) : ax_I ay_lay (d + 1) q_Model_want [.ref 222, ax_i x1] V Φ Θ := by
  refine ax_T.of (M := m_Model_want) rfl (Nat.le_of_ble_eq_true rfl) ?_
  refine ax_mv 0 0 [some (.ref 222), some (ax_i x1)] [] rfl ?_
  refine ax_mv 1 1 [some (.ref 222), some (ax_i x1)] [.ref 222] rfl ?_
  refine ax_callI (pc' := 4) ⟨_, rfl⟩ ml_12_300 (rest := []) rfl (fun ss hs => ⟨_, _, ay_222 ss hs⟩) (Nat.le_of_ble_eq_true rfl) rfl rfl h (fun r1 V1 hg1 hr1 h => ?_)
  refine ax_mv 1 5 [some (.ref 222), some (ax_i x1)] [ax_i x1, ax_i r1] rfl ?_
  refine ax_if2 (p1 := 10) (p2 := 8) ⟨_, rfl⟩ (by decide) rfl hr1 hx1 (fun hc => ?_) (fun hc => ?_)
  · have h := h.1 hc
    refine ax_mv 2 12 [some (.ref 222), some (ax_i x1)] [.ref 222, .ref 222] rfl ?_
    refine ax_gI (kI := 68) (pc' := 15) ⟨_, rfl⟩ fl_12_294 ay_222 rfl rfl rfl ?_
    refine ax_mv 1 16 [some (.ref 222), some (ax_i x1)] [ax_i 1, ax_i (V1 222 68), .ref 222] rfl ?_
    refine ax_add (pc' := 17) ⟨_, rfl⟩ rfl ?_
    obtain ⟨o1, h⟩ := h
    obtain ⟨V2, eV2⟩ : ∃ W9 : ax_V, W9 = ax_u V1 222 68 ((V1 222 68) + 1) := ⟨_, rfl⟩
    have h := h V2 eV2
    have hg2 : ax_g V2 := eV2 ▸ ax_u_g hg1 o1
    refine ax_pI (kI := 68) (pc' := 20) ⟨_, rfl⟩ fl_12_294 ay_ok ay_222 rfl rfl rfl rfl eV2 rfl ?_
    refine ax_mv 1 21 [some (.ref 222), some (ax_i x1)] [ax_i 1] rfl ?_
    exact ax_iret ⟨_, rfl⟩ rfl (ax_nbv (by decide)) (by decide) hg2 h
  · have h := h.2 hc
    refine ax_mv 1 9 [some (.ref 222), some (ax_i x1)] [ax_i 0] rfl ?_
    exact ax_iret ⟨_, rfl⟩ rfl (ax_nbv (by decide)) (by decide) hg1 h
