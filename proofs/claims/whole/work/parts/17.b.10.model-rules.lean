/-! RULES of the model's methods: a method each, and each loop of it. PRINTED by wip/gen/rules.py -/
abbrev k_Model_tickNode_3 (d : Nat) (x1 : Int) (x2 : Int) (x3 : Int) (x4 : Int) (y5 : Option Value) (V : ax_V) (Φ : ax_V → Prop) (Θ : ax_V → Prop) : Prop := ax_R ay_lay ax_t d m_Model_tickNode 3 [some (.ref 222), some (ax_i x1), some (ax_i x2), some (ax_i x3), some (ax_i x4), y5] [] V (ax_Nr Φ) Θ
abbrev k_Model_tickNode_70 (d : Nat) (x1 : Int) (x2 : Int) (x3 : Int) (x4 : Int) (y5 : Option Value) (V : ax_V) (Φ : ax_V → Prop) (Θ : ax_V → Prop) : Prop := ax_R ay_lay ax_t d m_Model_tickNode 70 [some (.ref 222), some (ax_i x1), some (ax_i x2), some (ax_i x3), some (ax_i x4), y5] [] V (ax_Nr Φ) Θ
abbrev k_Model_tickNode_102 (d : Nat) (x1 : Int) (x2 : Int) (x3 : Int) (x4 : Int) (y5 : Option Value) (V : ax_V) (Φ : ax_V → Prop) (Θ : ax_V → Prop) : Prop := ax_R ay_lay ax_t d m_Model_tickNode 102 [some (.ref 222), some (ax_i x1), some (ax_i x2), some (ax_i x3), some (ax_i x4), y5] [] V (ax_Nr Φ) Θ
abbrev k_Model_tickNode_141 (d : Nat) (x1 : Int) (x2 : Int) (x3 : Int) (x4 : Int) (y5 : Option Value) (V : ax_V) (Φ : ax_V → Prop) (Θ : ax_V → Prop) : Prop := ax_R ay_lay ax_t d m_Model_tickNode 141 [some (.ref 222), some (ax_i x1), some (ax_i x2), some (ax_i x3), some (ax_i x4), y5] [] V (ax_Nr Φ) Θ
abbrev k_Model_tickNode_179 (d : Nat) (x1 : Int) (x2 : Int) (x3 : Int) (x4 : Int) (y5 : Option Value) (V : ax_V) (Φ : ax_V → Prop) (Θ : ax_V → Prop) : Prop := ax_R ay_lay ax_t d m_Model_tickNode 179 [some (.ref 222), some (ax_i x1), some (ax_i x2), some (ax_i x3), some (ax_i x4), y5] [] V (ax_Nr Φ) Θ
abbrev k_Model_tickNode_230 (d : Nat) (x1 : Int) (x2 : Int) (x3 : Int) (x4 : Int) (y5 : Option Value) (V : ax_V) (Φ : ax_V → Prop) (Θ : ax_V → Prop) : Prop := ax_R ay_lay ax_t d m_Model_tickNode 230 [some (.ref 222), some (ax_i x1), some (ax_i x2), some (ax_i x3), some (ax_i x4), y5] [] V (ax_Nr Φ) Θ
abbrev k_Model_tickNode_248 (d : Nat) (x1 : Int) (x2 : Int) (x3 : Int) (x4 : Int) (x5 : Int) (V : ax_V) (Φ : ax_V → Prop) (Θ : ax_V → Prop) : Prop := ax_R ay_lay ax_t d m_Model_tickNode 248 [some (.ref 222), some (ax_i x1), some (ax_i x2), some (ax_i x3), some (ax_i x4), some (ax_i x5)] [] V (ax_Nr Φ) Θ
abbrev k_Model_tickNode_339 (d : Nat) (x1 : Int) (x2 : Int) (x3 : Int) (x4 : Int) (y5 : Option Value) (V : ax_V) (Φ : ax_V → Prop) (Θ : ax_V → Prop) : Prop := ax_R ay_lay ax_t d m_Model_tickNode 339 [some (.ref 222), some (ax_i x1), some (ax_i x2), some (ax_i x3), some (ax_i x4), y5] [] V (ax_Nr Φ) Θ
abbrev k_Model_tickNode_416 (d : Nat) (x1 : Int) (x2 : Int) (x3 : Int) (x4 : Int) (y5 : Option Value) (V : ax_V) (Φ : ax_V → Prop) (Θ : ax_V → Prop) : Prop := ax_R ay_lay ax_t d m_Model_tickNode 416 [some (.ref 222), some (ax_i x1), some (ax_i x2), some (ax_i x3), some (ax_i x4), y5] [] V (ax_Nr Φ) Θ
set_option maxRecDepth 20000 in
theorem r_Model_tickNode_3 {d : Nat} {V : ax_V} {Φ : ax_V → Prop} {Θ : ax_V → Prop} {x1 : Int} {x2 : Int} {x3 : Int} {x4 : Int} {y5 : Option Value} (hg : ax_g V) (hx1 : ax_rg x1) (hx2 : ax_rg x2) (hx3 : ax_rg x3) (hx4 : ax_rg x4) (hy5 : ax_y y5) (h : ((26 ≤ x4 → k_Model_tickNode_70 d x1 x2 x3 0 y5 V Φ Θ) ∧ (x4 < 26 → (0 ≤ (26 * x2) + x4 ∧ (26 * x2) + x4 < 240) ∧ ((V 232 ((26 * x2) + x4) = 1 → (0 ≤ (26 * x1) + x4 ∧ (26 * x1) + x4 < 240) ∧ (∀ V3, V3 = ax_u V 295 ((26 * x1) + x4) 1 → (0 ≤ (26 * x1) + x4 ∧ (26 * x1) + x4 < 240) ∧ (∀ V4, V4 = ax_u V3 294 ((26 * x1) + x4) 1 → k_Model_tickNode_3 d x1 x2 x3 (x4 + 1) (some (ax_i 1)) V4 Φ Θ))) ∧ (¬ V 232 ((26 * x2) + x4) = 1 → (0 ≤ (26 * x1) + x4 ∧ (26 * x1) + x4 < 240) ∧ (∀ V1, V1 = ax_u V 295 ((26 * x1) + x4) 0 → (0 ≤ (26 * x1) + x4 ∧ (26 * x1) + x4 < 240) ∧ (∀ V2, V2 = ax_u V1 294 ((26 * x1) + x4) 0 → k_Model_tickNode_3 d x1 x2 x3 (x4 + 1) (some (ax_i 0)) V2 Φ Θ))))))) : k_Model_tickNode_3 d x1 x2 x3 x4 y5 V Φ Θ := by
  refine ax_mv 1 5 [some (.ref 222), some (ax_i x1), some (ax_i x2), some (ax_i x3), some (ax_i x4), y5] [ax_i x4] rfl ?_
  refine ax_bip (pc' := 7) ⟨_, rfl⟩ (by decide) rfl ?_
  refine ax_if2 (p1 := 67) (p2 := 10) ⟨_, rfl⟩ (by decide) rfl hx4 (by decide) (fun hc => ?_) (fun hc => ?_)
  · have h := h.1 hc
    refine ax_mv 1 68 [some (.ref 222), some (ax_i x1), some (ax_i x2), some (ax_i x3), some (ax_i x4), y5] [ax_i 0] rfl ?_
    refine ax_sti (i := 0) (k := 4) (n := 2) (pc' := 70) (L' := [some (.ref 222), some (ax_i x1), some (ax_i x2), some (ax_i x3), some (ax_i 0), y5]) ⟨_, rfl⟩ rfl rfl rfl (Nat.le_of_ble_eq_true rfl) rfl rfl ?_
    exact h
  · have h := h.2 (Int.not_le.mp hc)
    refine ax_mv 1 11 [some (.ref 222), some (ax_i x1), some (ax_i x2), some (ax_i x3), some (ax_i x4), y5] [.ref 222] rfl ?_
    refine ax_gR (v := .ref 232) (pc' := 14) ⟨_, rfl⟩ fl_12_37 ay_222 rfl rfl ?_
    refine ax_bip (pc' := 16) ⟨_, rfl⟩ (by decide) rfl ?_
    refine ax_mv 1 17 [some (.ref 222), some (ax_i x1), some (ax_i x2), some (ax_i x3), some (ax_i x4), y5] [ax_i x2, ax_i 26, .ref 232] rfl ?_
    refine ax_mul (pc' := 18) ⟨_, rfl⟩ rfl ?_
    refine ax_mv 1 20 [some (.ref 222), some (ax_i x1), some (ax_i x2), some (ax_i x3), some (ax_i x4), y5] [ax_i x4, ax_i (26 * x2), .ref 232] rfl ?_
    refine ax_add (pc' := 21) ⟨_, rfl⟩ rfl ?_
    obtain ⟨o1, h⟩ := h
    refine ax_ild (n := 240) (pc' := 22) ⟨_, rfl⟩ ay_232 (by decide) o1 rfl ?_
    refine ax_mv 1 23 [some (.ref 222), some (ax_i x1), some (ax_i x2), some (ax_i x3), some (ax_i x4), y5] [ax_i 1, ax_i (V 232 ((26 * x2) + x4))] rfl ?_
    refine ax_if2 (p1 := 30) (p2 := 26) ⟨_, rfl⟩ (by decide) rfl (hg _ _) (by decide) (fun hc => ?_) (fun hc => ?_)
    · have h := h.2 hc
      refine ax_mv 1 31 [some (.ref 222), some (ax_i x1), some (ax_i x2), some (ax_i x3), some (ax_i x4), y5] [ax_i 0] rfl ?_
      refine ax_sti (i := 0) (k := 5) (n := 2) (pc' := 33) (L' := [some (.ref 222), some (ax_i x1), some (ax_i x2), some (ax_i x3), some (ax_i x4), some (ax_i 0)]) ⟨_, rfl⟩ rfl rfl rfl (Nat.le_of_ble_eq_true rfl) rfl rfl ?_
      refine ax_mv 1 34 [some (.ref 222), some (ax_i x1), some (ax_i x2), some (ax_i x3), some (ax_i x4), some (ax_i 0)] [.ref 222] rfl ?_
      refine ax_gR (v := .ref 295) (pc' := 37) ⟨_, rfl⟩ fl_12_227 ay_222 rfl rfl ?_
      refine ax_bip (pc' := 39) ⟨_, rfl⟩ (by decide) rfl ?_
      refine ax_mv 1 40 [some (.ref 222), some (ax_i x1), some (ax_i x2), some (ax_i x3), some (ax_i x4), some (ax_i 0)] [ax_i x1, ax_i 26, .ref 295] rfl ?_
      refine ax_mul (pc' := 41) ⟨_, rfl⟩ rfl ?_
      refine ax_mv 1 43 [some (.ref 222), some (ax_i x1), some (ax_i x2), some (ax_i x3), some (ax_i x4), some (ax_i 0)] [ax_i x4, ax_i (26 * x1), .ref 295] rfl ?_
      refine ax_add (pc' := 44) ⟨_, rfl⟩ rfl ?_
      refine ax_mv 1 46 [some (.ref 222), some (ax_i x1), some (ax_i x2), some (ax_i x3), some (ax_i x4), some (ax_i 0)] [ax_i 0, ax_i ((26 * x1) + x4), .ref 295] rfl ?_
      obtain ⟨o2, h⟩ := h
      obtain ⟨V1, eV1⟩ : ∃ W9 : ax_V, W9 = ax_u V 295 ((26 * x1) + x4) 0 := ⟨_, rfl⟩
      have h := h V1 eV1
      have hg1 : ax_g V1 := eV1 ▸ ax_u_g hg (by decide)
      refine ax_bst (n := 240) (pc' := 47) ⟨_, rfl⟩ ay_ok ay_295 (by decide) o2 (by decide) eV1 rfl ?_
      refine ax_mv 1 48 [some (.ref 222), some (ax_i x1), some (ax_i x2), some (ax_i x3), some (ax_i x4), some (ax_i 0)] [.ref 222] rfl ?_
      refine ax_gR (v := .ref 294) (pc' := 51) ⟨_, rfl⟩ fl_12_224 ay_222 rfl rfl ?_
      refine ax_bip (pc' := 53) ⟨_, rfl⟩ (by decide) rfl ?_
      refine ax_mv 1 54 [some (.ref 222), some (ax_i x1), some (ax_i x2), some (ax_i x3), some (ax_i x4), some (ax_i 0)] [ax_i x1, ax_i 26, .ref 294] rfl ?_
      refine ax_mul (pc' := 55) ⟨_, rfl⟩ rfl ?_
      refine ax_mv 1 57 [some (.ref 222), some (ax_i x1), some (ax_i x2), some (ax_i x3), some (ax_i x4), some (ax_i 0)] [ax_i x4, ax_i (26 * x1), .ref 294] rfl ?_
      refine ax_add (pc' := 58) ⟨_, rfl⟩ rfl ?_
      refine ax_mv 1 60 [some (.ref 222), some (ax_i x1), some (ax_i x2), some (ax_i x3), some (ax_i x4), some (ax_i 0)] [ax_i 0, ax_i ((26 * x1) + x4), .ref 294] rfl ?_
      obtain ⟨o3, h⟩ := h
      obtain ⟨V2, eV2⟩ : ∃ W9 : ax_V, W9 = ax_u V1 294 ((26 * x1) + x4) 0 := ⟨_, rfl⟩
      have h := h V2 eV2
      have hg2 : ax_g V2 := eV2 ▸ ax_u_g hg1 (by decide)
      refine ax_bst (n := 240) (pc' := 61) ⟨_, rfl⟩ ay_ok ay_294 (by decide) o3 (by decide) eV2 rfl ?_
      refine ax_inc (x := x4) (pc' := 64) (L' := [some (.ref 222), some (ax_i x1), some (ax_i x2), some (ax_i x3), some (ax_i (x4 + 1)), some (ax_i 0)]) ⟨_, rfl⟩ rfl rfl rfl rfl ?_
      refine ax_mv 1 3 [some (.ref 222), some (ax_i x1), some (ax_i x2), some (ax_i x3), some (ax_i (x4 + 1)), some (ax_i 0)] [] rfl ?_
      exact h
    · have h := h.1 (Classical.not_not.mp hc)
      refine ax_mv 2 31 [some (.ref 222), some (ax_i x1), some (ax_i x2), some (ax_i x3), some (ax_i x4), y5] [ax_i 1] rfl ?_
      refine ax_sti (i := 0) (k := 5) (n := 2) (pc' := 33) (L' := [some (.ref 222), some (ax_i x1), some (ax_i x2), some (ax_i x3), some (ax_i x4), some (ax_i 1)]) ⟨_, rfl⟩ rfl rfl rfl (Nat.le_of_ble_eq_true rfl) rfl rfl ?_
      refine ax_mv 1 34 [some (.ref 222), some (ax_i x1), some (ax_i x2), some (ax_i x3), some (ax_i x4), some (ax_i 1)] [.ref 222] rfl ?_
      refine ax_gR (v := .ref 295) (pc' := 37) ⟨_, rfl⟩ fl_12_227 ay_222 rfl rfl ?_
      refine ax_bip (pc' := 39) ⟨_, rfl⟩ (by decide) rfl ?_
      refine ax_mv 1 40 [some (.ref 222), some (ax_i x1), some (ax_i x2), some (ax_i x3), some (ax_i x4), some (ax_i 1)] [ax_i x1, ax_i 26, .ref 295] rfl ?_
      refine ax_mul (pc' := 41) ⟨_, rfl⟩ rfl ?_
      refine ax_mv 1 43 [some (.ref 222), some (ax_i x1), some (ax_i x2), some (ax_i x3), some (ax_i x4), some (ax_i 1)] [ax_i x4, ax_i (26 * x1), .ref 295] rfl ?_
      refine ax_add (pc' := 44) ⟨_, rfl⟩ rfl ?_
      refine ax_mv 1 46 [some (.ref 222), some (ax_i x1), some (ax_i x2), some (ax_i x3), some (ax_i x4), some (ax_i 1)] [ax_i 1, ax_i ((26 * x1) + x4), .ref 295] rfl ?_
      obtain ⟨o4, h⟩ := h
      obtain ⟨V3, eV3⟩ : ∃ W9 : ax_V, W9 = ax_u V 295 ((26 * x1) + x4) 1 := ⟨_, rfl⟩
      have h := h V3 eV3
      have hg3 : ax_g V3 := eV3 ▸ ax_u_g hg (by decide)
      refine ax_bst (n := 240) (pc' := 47) ⟨_, rfl⟩ ay_ok ay_295 (by decide) o4 (by decide) eV3 rfl ?_
      refine ax_mv 1 48 [some (.ref 222), some (ax_i x1), some (ax_i x2), some (ax_i x3), some (ax_i x4), some (ax_i 1)] [.ref 222] rfl ?_
      refine ax_gR (v := .ref 294) (pc' := 51) ⟨_, rfl⟩ fl_12_224 ay_222 rfl rfl ?_
      refine ax_bip (pc' := 53) ⟨_, rfl⟩ (by decide) rfl ?_
      refine ax_mv 1 54 [some (.ref 222), some (ax_i x1), some (ax_i x2), some (ax_i x3), some (ax_i x4), some (ax_i 1)] [ax_i x1, ax_i 26, .ref 294] rfl ?_
      refine ax_mul (pc' := 55) ⟨_, rfl⟩ rfl ?_
      refine ax_mv 1 57 [some (.ref 222), some (ax_i x1), some (ax_i x2), some (ax_i x3), some (ax_i x4), some (ax_i 1)] [ax_i x4, ax_i (26 * x1), .ref 294] rfl ?_
      refine ax_add (pc' := 58) ⟨_, rfl⟩ rfl ?_
      refine ax_mv 1 60 [some (.ref 222), some (ax_i x1), some (ax_i x2), some (ax_i x3), some (ax_i x4), some (ax_i 1)] [ax_i 1, ax_i ((26 * x1) + x4), .ref 294] rfl ?_
      obtain ⟨o5, h⟩ := h
      obtain ⟨V4, eV4⟩ : ∃ W9 : ax_V, W9 = ax_u V3 294 ((26 * x1) + x4) 1 := ⟨_, rfl⟩
      have h := h V4 eV4
      have hg4 : ax_g V4 := eV4 ▸ ax_u_g hg3 (by decide)
      refine ax_bst (n := 240) (pc' := 61) ⟨_, rfl⟩ ay_ok ay_294 (by decide) o5 (by decide) eV4 rfl ?_
      refine ax_inc (x := x4) (pc' := 64) (L' := [some (.ref 222), some (ax_i x1), some (ax_i x2), some (ax_i x3), some (ax_i (x4 + 1)), some (ax_i 1)]) ⟨_, rfl⟩ rfl rfl rfl rfl ?_
      refine ax_mv 1 3 [some (.ref 222), some (ax_i x1), some (ax_i x2), some (ax_i x3), some (ax_i (x4 + 1)), some (ax_i 1)] [] rfl ?_
      exact h
set_option maxRecDepth 20000 in
theorem r_Model_tickNode_70 {d : Nat} {V : ax_V} {Φ : ax_V → Prop} {Θ : ax_V → Prop} {x1 : Int} {x2 : Int} {x3 : Int} {x4 : Int} {y5 : Option Value} (hg : ax_g V) (hx1 : ax_rg x1) (hx2 : ax_rg x2) (hx3 : ax_rg x3) (hx4 : ax_rg x4) (hy5 : ax_y y5) (h : ((V 222 55 ≤ x4 → k_Model_tickNode_102 d x1 x2 x3 0 y5 V Φ Θ) ∧ (x4 < V 222 55 → (0 ≤ (351 * x1) + x4 ∧ (351 * x1) + x4 < 3159) ∧ (∀ V1, V1 = ax_u V 297 ((351 * x1) + x4) 0 → k_Model_tickNode_70 d x1 x2 x3 (x4 + 1) y5 V1 Φ Θ)))) : k_Model_tickNode_70 d x1 x2 x3 x4 y5 V Φ Θ := by
  refine ax_mv 2 73 [some (.ref 222), some (ax_i x1), some (ax_i x2), some (ax_i x3), some (ax_i x4), y5] [.ref 222, ax_i x4] rfl ?_
  refine ax_gI (kI := 55) (pc' := 76) ⟨_, rfl⟩ fl_12_423 ay_222 rfl rfl rfl ?_
  refine ax_if2 (p1 := 99) (p2 := 79) ⟨_, rfl⟩ (by decide) rfl hx4 (hg _ _) (fun hc => ?_) (fun hc => ?_)
  · have h := h.1 hc
    refine ax_mv 1 100 [some (.ref 222), some (ax_i x1), some (ax_i x2), some (ax_i x3), some (ax_i x4), y5] [ax_i 0] rfl ?_
    refine ax_sti (i := 0) (k := 4) (n := 2) (pc' := 102) (L' := [some (.ref 222), some (ax_i x1), some (ax_i x2), some (ax_i x3), some (ax_i 0), y5]) ⟨_, rfl⟩ rfl rfl rfl (Nat.le_of_ble_eq_true rfl) rfl rfl ?_
    exact h
  · have h := h.2 (Int.not_le.mp hc)
    refine ax_mv 1 80 [some (.ref 222), some (ax_i x1), some (ax_i x2), some (ax_i x3), some (ax_i x4), y5] [.ref 222] rfl ?_
    refine ax_gR (v := .ref 297) (pc' := 83) ⟨_, rfl⟩ fl_12_233 ay_222 rfl rfl ?_
    refine ax_sip (pc' := 86) ⟨_, rfl⟩ (by decide) rfl ?_
    refine ax_mv 1 87 [some (.ref 222), some (ax_i x1), some (ax_i x2), some (ax_i x3), some (ax_i x4), y5] [ax_i x1, ax_i 351, .ref 297] rfl ?_
    refine ax_mul (pc' := 88) ⟨_, rfl⟩ rfl ?_
    refine ax_mv 1 90 [some (.ref 222), some (ax_i x1), some (ax_i x2), some (ax_i x3), some (ax_i x4), y5] [ax_i x4, ax_i (351 * x1), .ref 297] rfl ?_
    refine ax_add (pc' := 91) ⟨_, rfl⟩ rfl ?_
    refine ax_mv 1 92 [some (.ref 222), some (ax_i x1), some (ax_i x2), some (ax_i x3), some (ax_i x4), y5] [ax_i 0, ax_i ((351 * x1) + x4), .ref 297] rfl ?_
    obtain ⟨o6, h⟩ := h
    obtain ⟨V1, eV1⟩ : ∃ W9 : ax_V, W9 = ax_u V 297 ((351 * x1) + x4) 0 := ⟨_, rfl⟩
    have h := h V1 eV1
    have hg1 : ax_g V1 := eV1 ▸ ax_u_g hg (by decide)
    refine ax_bst (n := 3159) (pc' := 93) ⟨_, rfl⟩ ay_ok ay_297 (by decide) o6 (by decide) eV1 rfl ?_
    refine ax_inc (x := x4) (pc' := 96) (L' := [some (.ref 222), some (ax_i x1), some (ax_i x2), some (ax_i x3), some (ax_i (x4 + 1)), y5]) ⟨_, rfl⟩ rfl rfl rfl rfl ?_
    refine ax_mv 1 70 [some (.ref 222), some (ax_i x1), some (ax_i x2), some (ax_i x3), some (ax_i (x4 + 1)), y5] [] rfl ?_
    exact h
set_option maxRecDepth 20000 in
theorem r_Model_tickNode_102 {d : Nat} {V : ax_V} {Φ : ax_V → Prop} {Θ : ax_V → Prop} {x1 : Int} {x2 : Int} {x3 : Int} {x4 : Int} {y5 : Option Value} (hg : ax_g V) (hx1 : ax_rg x1) (hx2 : ax_rg x2) (hx3 : ax_rg x3) (hx4 : ax_rg x4) (hy5 : ax_y y5) (h : (0 ≤ x2 ∧ x2 < 9) ∧ ((V 284 x2 ≤ x4 → k_Model_tickNode_141 d x1 x2 x3 0 y5 V Φ Θ) ∧ (x4 < V 284 x2 → (0 ≤ (26 * x2) + x4 ∧ (26 * x2) + x4 < 240) ∧ ax_N ay_lay d q_Model_doLetter [.ref 222, ax_i x1, ax_i x2, ax_i x3, ax_i (V 285 ((26 * x2) + x4))] V (fun V1 => k_Model_tickNode_102 d x1 x2 x3 (x4 + 1) y5 V1 Φ Θ) Θ))) : k_Model_tickNode_102 d x1 x2 x3 x4 y5 V Φ Θ := by
  refine ax_mv 2 105 [some (.ref 222), some (ax_i x1), some (ax_i x2), some (ax_i x3), some (ax_i x4), y5] [.ref 222, ax_i x4] rfl ?_
  refine ax_gR (v := .ref 284) (pc' := 108) ⟨_, rfl⟩ fl_12_194 ay_222 rfl rfl ?_
  refine ax_mv 1 109 [some (.ref 222), some (ax_i x1), some (ax_i x2), some (ax_i x3), some (ax_i x4), y5] [ax_i x2, .ref 284, ax_i x4] rfl ?_
  obtain ⟨o7, h⟩ := h
  refine ax_ild (n := 9) (pc' := 110) ⟨_, rfl⟩ ay_284 (by decide) o7 rfl ?_
  refine ax_if2 (p1 := 138) (p2 := 113) ⟨_, rfl⟩ (by decide) rfl hx4 (hg _ _) (fun hc => ?_) (fun hc => ?_)
  · have h := h.1 hc
    refine ax_mv 1 139 [some (.ref 222), some (ax_i x1), some (ax_i x2), some (ax_i x3), some (ax_i x4), y5] [ax_i 0] rfl ?_
    refine ax_sti (i := 0) (k := 4) (n := 2) (pc' := 141) (L' := [some (.ref 222), some (ax_i x1), some (ax_i x2), some (ax_i x3), some (ax_i 0), y5]) ⟨_, rfl⟩ rfl rfl rfl (Nat.le_of_ble_eq_true rfl) rfl rfl ?_
    exact h
  · have h := h.2 (Int.not_le.mp hc)
    refine ax_mv 5 118 [some (.ref 222), some (ax_i x1), some (ax_i x2), some (ax_i x3), some (ax_i x4), y5] [.ref 222, ax_i x3, ax_i x2, ax_i x1, .ref 222] rfl ?_
    refine ax_gR (v := .ref 285) (pc' := 121) ⟨_, rfl⟩ fl_12_197 ay_222 rfl rfl ?_
    refine ax_bip (pc' := 123) ⟨_, rfl⟩ (by decide) rfl ?_
    refine ax_mv 1 124 [some (.ref 222), some (ax_i x1), some (ax_i x2), some (ax_i x3), some (ax_i x4), y5] [ax_i x2, ax_i 26, .ref 285, ax_i x3, ax_i x2, ax_i x1, .ref 222] rfl ?_
    refine ax_mul (pc' := 125) ⟨_, rfl⟩ rfl ?_
    refine ax_mv 1 127 [some (.ref 222), some (ax_i x1), some (ax_i x2), some (ax_i x3), some (ax_i x4), y5] [ax_i x4, ax_i (26 * x2), .ref 285, ax_i x3, ax_i x2, ax_i x1, .ref 222] rfl ?_
    refine ax_add (pc' := 128) ⟨_, rfl⟩ rfl ?_
    obtain ⟨o8, h⟩ := h
    refine ax_ild (n := 240) (pc' := 129) ⟨_, rfl⟩ ay_285 (by decide) o8 rfl ?_
    refine ax_callN (pc' := 132) ⟨_, rfl⟩ ml_12_673 (rest := []) rfl (fun ss hs => ⟨_, _, ay_222 ss hs⟩) (Nat.le_of_ble_eq_true rfl) rfl rfl h (fun V1 hg1 h => ?_)
    refine ax_inc (x := x4) (pc' := 135) (L' := [some (.ref 222), some (ax_i x1), some (ax_i x2), some (ax_i x3), some (ax_i (x4 + 1)), y5]) ⟨_, rfl⟩ rfl rfl rfl rfl ?_
    refine ax_mv 1 102 [some (.ref 222), some (ax_i x1), some (ax_i x2), some (ax_i x3), some (ax_i (x4 + 1)), y5] [] rfl ?_
    exact h
set_option maxRecDepth 20000 in
theorem r_Model_tickNode_141 {d : Nat} {V : ax_V} {Φ : ax_V → Prop} {Θ : ax_V → Prop} {x1 : Int} {x2 : Int} {x3 : Int} {x4 : Int} {y5 : Option Value} (hg : ax_g V) (hx1 : ax_rg x1) (hx2 : ax_rg x2) (hx3 : ax_rg x3) (hx4 : ax_rg x4) (hy5 : ax_y y5) (h : ((V 222 55 ≤ x4 → k_Model_tickNode_179 d x1 x2 x3 0 y5 V Φ Θ) ∧ (x4 < V 222 55 → (0 ≤ x4 ∧ x4 < 351) ∧ ((V 267 x4 = x2 → ax_N ay_lay d q_Model_choose [.ref 222, ax_i x1, ax_i x2, ax_i x3, ax_i x4] V (fun V1 => k_Model_tickNode_141 d x1 x2 x3 (x4 + 1) y5 V1 Φ Θ) Θ) ∧ (¬ V 267 x4 = x2 → k_Model_tickNode_141 d x1 x2 x3 (x4 + 1) y5 V Φ Θ))))) : k_Model_tickNode_141 d x1 x2 x3 x4 y5 V Φ Θ := by
  refine ax_mv 2 144 [some (.ref 222), some (ax_i x1), some (ax_i x2), some (ax_i x3), some (ax_i x4), y5] [.ref 222, ax_i x4] rfl ?_
  refine ax_gI (kI := 55) (pc' := 147) ⟨_, rfl⟩ fl_12_423 ay_222 rfl rfl rfl ?_
  refine ax_if2 (p1 := 176) (p2 := 150) ⟨_, rfl⟩ (by decide) rfl hx4 (hg _ _) (fun hc => ?_) (fun hc => ?_)
  · have h := h.1 hc
    refine ax_mv 1 177 [some (.ref 222), some (ax_i x1), some (ax_i x2), some (ax_i x3), some (ax_i x4), y5] [ax_i 0] rfl ?_
    refine ax_sti (i := 0) (k := 4) (n := 2) (pc' := 179) (L' := [some (.ref 222), some (ax_i x1), some (ax_i x2), some (ax_i x3), some (ax_i 0), y5]) ⟨_, rfl⟩ rfl rfl rfl (Nat.le_of_ble_eq_true rfl) rfl rfl ?_
    exact h
  · have h := h.2 (Int.not_le.mp hc)
    refine ax_mv 1 151 [some (.ref 222), some (ax_i x1), some (ax_i x2), some (ax_i x3), some (ax_i x4), y5] [.ref 222] rfl ?_
    refine ax_gR (v := .ref 267) (pc' := 154) ⟨_, rfl⟩ fl_12_143 ay_222 rfl rfl ?_
    refine ax_mv 1 156 [some (.ref 222), some (ax_i x1), some (ax_i x2), some (ax_i x3), some (ax_i x4), y5] [ax_i x4, .ref 267] rfl ?_
    obtain ⟨o9, h⟩ := h
    refine ax_ild (n := 351) (pc' := 157) ⟨_, rfl⟩ ay_267 (by decide) o9 rfl ?_
    refine ax_mv 1 158 [some (.ref 222), some (ax_i x1), some (ax_i x2), some (ax_i x3), some (ax_i x4), y5] [ax_i x2, ax_i (V 267 x4)] rfl ?_
    refine ax_if2 (p1 := 170) (p2 := 161) ⟨_, rfl⟩ (by decide) rfl (hg _ _) hx2 (fun hc => ?_) (fun hc => ?_)
    · have h := h.2 hc
      refine ax_inc (x := x4) (pc' := 173) (L' := [some (.ref 222), some (ax_i x1), some (ax_i x2), some (ax_i x3), some (ax_i (x4 + 1)), y5]) ⟨_, rfl⟩ rfl rfl rfl rfl ?_
      refine ax_mv 1 141 [some (.ref 222), some (ax_i x1), some (ax_i x2), some (ax_i x3), some (ax_i (x4 + 1)), y5] [] rfl ?_
      exact h
    · have h := h.1 (Classical.not_not.mp hc)
      refine ax_mv 5 167 [some (.ref 222), some (ax_i x1), some (ax_i x2), some (ax_i x3), some (ax_i x4), y5] [ax_i x4, ax_i x3, ax_i x2, ax_i x1, .ref 222] rfl ?_
      refine ax_callN (pc' := 170) ⟨_, rfl⟩ ml_12_667 (rest := []) rfl (fun ss hs => ⟨_, _, ay_222 ss hs⟩) (Nat.le_of_ble_eq_true rfl) rfl rfl h (fun V1 hg1 h => ?_)
      refine ax_inc (x := x4) (pc' := 173) (L' := [some (.ref 222), some (ax_i x1), some (ax_i x2), some (ax_i x3), some (ax_i (x4 + 1)), y5]) ⟨_, rfl⟩ rfl rfl rfl rfl ?_
      refine ax_mv 1 141 [some (.ref 222), some (ax_i x1), some (ax_i x2), some (ax_i x3), some (ax_i (x4 + 1)), y5] [] rfl ?_
      exact h
set_option maxRecDepth 20000 in
theorem r_Model_tickNode_179 {d : Nat} {V : ax_V} {Φ : ax_V → Prop} {Θ : ax_V → Prop} {x1 : Int} {x2 : Int} {x3 : Int} {x4 : Int} {y5 : Option Value} (hg : ax_g V) (hx1 : ax_rg x1) (hx2 : ax_rg x2) (hx3 : ax_rg x3) (hx4 : ax_rg x4) (hy5 : ax_y y5) (h : ((V 222 44 ≤ x4 → k_Model_tickNode_230 d x1 x2 x3 0 y5 V Φ Θ) ∧ (x4 < V 222 44 → ax_I ay_lay d q_Model_holds [.ref 222, ax_i x1, ax_i x2, ax_i x4] V (fun r1 V1 => ((r1 = 0 → k_Model_tickNode_179 d x1 x2 x3 (x4 + 1) y5 V1 Φ Θ) ∧ (¬ r1 = 0 → (0 ≤ x4 ∧ x4 < 351) ∧ (0 ≤ x4 ∧ x4 < 351) ∧ ax_N ay_lay d q_Model_workAll [.ref 222, ax_i x1, ax_i x2, ax_i x3, ax_i (V1 261 x4), ax_i (V1 262 x4), ax_i 1] V1 (fun V2 => k_Model_tickNode_179 d x1 x2 x3 (x4 + 1) y5 V2 Φ Θ) Θ))) Θ))) : k_Model_tickNode_179 d x1 x2 x3 x4 y5 V Φ Θ := by
  refine ax_mv 2 182 [some (.ref 222), some (ax_i x1), some (ax_i x2), some (ax_i x3), some (ax_i x4), y5] [.ref 222, ax_i x4] rfl ?_
  refine ax_gI (kI := 44) (pc' := 185) ⟨_, rfl⟩ fl_12_414 ay_222 rfl rfl rfl ?_
  refine ax_if2 (p1 := 227) (p2 := 188) ⟨_, rfl⟩ (by decide) rfl hx4 (hg _ _) (fun hc => ?_) (fun hc => ?_)
  · have h := h.1 hc
    refine ax_mv 1 228 [some (.ref 222), some (ax_i x1), some (ax_i x2), some (ax_i x3), some (ax_i x4), y5] [ax_i 0] rfl ?_
    refine ax_sti (i := 0) (k := 4) (n := 2) (pc' := 230) (L' := [some (.ref 222), some (ax_i x1), some (ax_i x2), some (ax_i x3), some (ax_i 0), y5]) ⟨_, rfl⟩ rfl rfl rfl (Nat.le_of_ble_eq_true rfl) rfl rfl ?_
    exact h
  · have h := h.2 (Int.not_le.mp hc)
    refine ax_mv 4 193 [some (.ref 222), some (ax_i x1), some (ax_i x2), some (ax_i x3), some (ax_i x4), y5] [ax_i x4, ax_i x2, ax_i x1, .ref 222] rfl ?_
    refine ax_callI (pc' := 196) ⟨_, rfl⟩ ml_12_670 (rest := []) rfl (fun ss hs => ⟨_, _, ay_222 ss hs⟩) (Nat.le_of_ble_eq_true rfl) rfl rfl h (fun r1 V1 hg1 hr1 h => ?_)
    refine ax_if (p1 := 221) (p2 := 199) ⟨_, rfl⟩ (by decide) rfl hr1 (fun hc => ?_) (fun hc => ?_)
    · have h := h.1 hc
      refine ax_inc (x := x4) (pc' := 224) (L' := [some (.ref 222), some (ax_i x1), some (ax_i x2), some (ax_i x3), some (ax_i (x4 + 1)), y5]) ⟨_, rfl⟩ rfl rfl rfl rfl ?_
      refine ax_mv 1 179 [some (.ref 222), some (ax_i x1), some (ax_i x2), some (ax_i x3), some (ax_i (x4 + 1)), y5] [] rfl ?_
      exact h
    · have h := h.2 hc
      refine ax_mv 5 204 [some (.ref 222), some (ax_i x1), some (ax_i x2), some (ax_i x3), some (ax_i x4), y5] [.ref 222, ax_i x3, ax_i x2, ax_i x1, .ref 222] rfl ?_
      refine ax_gR (v := .ref 261) (pc' := 207) ⟨_, rfl⟩ fl_12_125 ay_222 rfl rfl ?_
      refine ax_mv 1 209 [some (.ref 222), some (ax_i x1), some (ax_i x2), some (ax_i x3), some (ax_i x4), y5] [ax_i x4, .ref 261, ax_i x3, ax_i x2, ax_i x1, .ref 222] rfl ?_
      obtain ⟨o10, h⟩ := h
      refine ax_ild (n := 351) (pc' := 210) ⟨_, rfl⟩ ay_261 (by decide) o10 rfl ?_
      refine ax_mv 1 211 [some (.ref 222), some (ax_i x1), some (ax_i x2), some (ax_i x3), some (ax_i x4), y5] [.ref 222, ax_i (V1 261 x4), ax_i x3, ax_i x2, ax_i x1, .ref 222] rfl ?_
      refine ax_gR (v := .ref 262) (pc' := 214) ⟨_, rfl⟩ fl_12_128 ay_222 rfl rfl ?_
      refine ax_mv 1 216 [some (.ref 222), some (ax_i x1), some (ax_i x2), some (ax_i x3), some (ax_i x4), y5] [ax_i x4, .ref 262, ax_i (V1 261 x4), ax_i x3, ax_i x2, ax_i x1, .ref 222] rfl ?_
      obtain ⟨o11, h⟩ := h
      refine ax_ild (n := 351) (pc' := 217) ⟨_, rfl⟩ ay_262 (by decide) o11 rfl ?_
      refine ax_mv 1 218 [some (.ref 222), some (ax_i x1), some (ax_i x2), some (ax_i x3), some (ax_i x4), y5] [ax_i 1, ax_i (V1 262 x4), ax_i (V1 261 x4), ax_i x3, ax_i x2, ax_i x1, .ref 222] rfl ?_
      refine ax_callN (pc' := 221) ⟨_, rfl⟩ ml_12_652 (rest := []) rfl (fun ss hs => ⟨_, _, ay_222 ss hs⟩) (Nat.le_of_ble_eq_true rfl) rfl rfl h (fun V2 hg2 h => ?_)
      refine ax_inc (x := x4) (pc' := 224) (L' := [some (.ref 222), some (ax_i x1), some (ax_i x2), some (ax_i x3), some (ax_i (x4 + 1)), y5]) ⟨_, rfl⟩ rfl rfl rfl rfl ?_
      refine ax_mv 1 179 [some (.ref 222), some (ax_i x1), some (ax_i x2), some (ax_i x3), some (ax_i (x4 + 1)), y5] [] rfl ?_
      exact h
set_option maxRecDepth 20000 in
theorem r_Model_tickNode_230 {d : Nat} {V : ax_V} {Φ : ax_V → Prop} {Θ : ax_V → Prop} {x1 : Int} {x2 : Int} {x3 : Int} {x4 : Int} {y5 : Option Value} (hg : ax_g V) (hx1 : ax_rg x1) (hx2 : ax_rg x2) (hx3 : ax_rg x3) (hx4 : ax_rg x4) (hy5 : ax_y y5) (h : ((V 222 44 ≤ x4 → k_Model_tickNode_339 d x1 x2 x3 0 y5 V Φ Θ) ∧ (x4 < V 222 44 → (0 ≤ x4 ∧ x4 < 351) ∧ k_Model_tickNode_248 d x1 x2 x3 x4 (V 261 x4) V Φ Θ))) : k_Model_tickNode_230 d x1 x2 x3 x4 y5 V Φ Θ := by
  refine ax_mv 2 233 [some (.ref 222), some (ax_i x1), some (ax_i x2), some (ax_i x3), some (ax_i x4), y5] [.ref 222, ax_i x4] rfl ?_
  refine ax_gI (kI := 44) (pc' := 236) ⟨_, rfl⟩ fl_12_414 ay_222 rfl rfl rfl ?_
  refine ax_if2 (p1 := 336) (p2 := 239) ⟨_, rfl⟩ (by decide) rfl hx4 (hg _ _) (fun hc => ?_) (fun hc => ?_)
  · have h := h.1 hc
    refine ax_mv 1 337 [some (.ref 222), some (ax_i x1), some (ax_i x2), some (ax_i x3), some (ax_i x4), y5] [ax_i 0] rfl ?_
    refine ax_sti (i := 0) (k := 4) (n := 2) (pc' := 339) (L' := [some (.ref 222), some (ax_i x1), some (ax_i x2), some (ax_i x3), some (ax_i 0), y5]) ⟨_, rfl⟩ rfl rfl rfl (Nat.le_of_ble_eq_true rfl) rfl rfl ?_
    exact h
  · have h := h.2 (Int.not_le.mp hc)
    refine ax_mv 1 240 [some (.ref 222), some (ax_i x1), some (ax_i x2), some (ax_i x3), some (ax_i x4), y5] [.ref 222] rfl ?_
    refine ax_gR (v := .ref 261) (pc' := 243) ⟨_, rfl⟩ fl_12_125 ay_222 rfl rfl ?_
    refine ax_mv 1 245 [some (.ref 222), some (ax_i x1), some (ax_i x2), some (ax_i x3), some (ax_i x4), y5] [ax_i x4, .ref 261] rfl ?_
    obtain ⟨o12, h⟩ := h
    refine ax_ild (n := 351) (pc' := 246) ⟨_, rfl⟩ ay_261 (by decide) o12 rfl ?_
    refine ax_sti (i := 0) (k := 5) (n := 2) (pc' := 248) (L' := [some (.ref 222), some (ax_i x1), some (ax_i x2), some (ax_i x3), some (ax_i x4), some (ax_i (V 261 x4))]) ⟨_, rfl⟩ rfl rfl rfl (Nat.le_of_ble_eq_true rfl) rfl rfl ?_
    exact h
set_option maxRecDepth 20000 in
theorem r_Model_tickNode_248 {d : Nat} {V : ax_V} {Φ : ax_V → Prop} {Θ : ax_V → Prop} {x1 : Int} {x2 : Int} {x3 : Int} {x4 : Int} {x5 : Int} (hg : ax_g V) (hx1 : ax_rg x1) (hx2 : ax_rg x2) (hx3 : ax_rg x3) (hx4 : ax_rg x4) (hx5 : ax_rg x5) (h : (0 ≤ x4 ∧ x4 < 351) ∧ ((V 262 x4 < x5 → k_Model_tickNode_230 d x1 x2 x3 (x4 + 1) (some (ax_i x5)) V Φ Θ) ∧ (x5 ≤ V 262 x4 → ax_I ay_lay d q_Model_holds [.ref 222, ax_i x1, ax_i x2, ax_i x4] V (fun r1 V1 => ((r1 = 0 → k_Model_tickNode_230 d x1 x2 x3 (x4 + 1) (some (ax_i x5)) V1 Φ Θ) ∧ (¬ r1 = 0 → (0 ≤ x5 ∧ x5 < 701) ∧ ((V1 241 x5 = 6 → (0 ≤ x5 ∧ x5 < 701) ∧ ax_I ay_lay d q_Model_isOn [.ref 222, ax_i x1, ax_i (V1 254 x5)] V1 (fun r2 V2 => ((r2 = 0 → k_Model_tickNode_248 d x1 x2 x3 x4 (x5 + 1) V2 Φ Θ) ∧ (¬ r2 = 0 → (0 ≤ x5 ∧ x5 < 701) ∧ (0 ≤ x5 ∧ x5 < 701) ∧ ax_I ay_lay d q_Model_valueAt [.ref 222, ax_i x1, ax_i (V2 245 x5)] V2 (fun r3 V3 => (0 ≤ x3 + (V2 257 x5) ∧ x3 + (V2 257 x5) < 600) ∧ (∀ V4, V4 = ax_u V3 292 (x3 + (V2 257 x5)) r3 → k_Model_tickNode_248 d x1 x2 x3 x4 (x5 + 1) V4 Φ Θ)) Θ))) Θ) ∧ (¬ V1 241 x5 = 6 → k_Model_tickNode_248 d x1 x2 x3 x4 (x5 + 1) V1 Φ Θ))))) Θ))) : k_Model_tickNode_248 d x1 x2 x3 x4 x5 V Φ Θ := by
  refine ax_mv 2 251 [some (.ref 222), some (ax_i x1), some (ax_i x2), some (ax_i x3), some (ax_i x4), some (ax_i x5)] [.ref 222, ax_i x5] rfl ?_
  refine ax_gR (v := .ref 262) (pc' := 254) ⟨_, rfl⟩ fl_12_128 ay_222 rfl rfl ?_
  refine ax_mv 1 256 [some (.ref 222), some (ax_i x1), some (ax_i x2), some (ax_i x3), some (ax_i x4), some (ax_i x5)] [ax_i x4, .ref 262, ax_i x5] rfl ?_
  obtain ⟨o13, h⟩ := h
  refine ax_ild (n := 351) (pc' := 257) ⟨_, rfl⟩ ay_262 (by decide) o13 rfl ?_
  refine ax_if2 (p1 := 330) (p2 := 260) ⟨_, rfl⟩ (by decide) rfl hx5 (hg _ _) (fun hc => ?_) (fun hc => ?_)
  · have h := h.1 hc
    refine ax_inc (x := x4) (pc' := 333) (L' := [some (.ref 222), some (ax_i x1), some (ax_i x2), some (ax_i x3), some (ax_i (x4 + 1)), some (ax_i x5)]) ⟨_, rfl⟩ rfl rfl rfl rfl ?_
    refine ax_mv 1 230 [some (.ref 222), some (ax_i x1), some (ax_i x2), some (ax_i x3), some (ax_i (x4 + 1)), some (ax_i x5)] [] rfl ?_
    exact h
  · have h := h.2 (Int.not_lt.mp hc)
    refine ax_mv 4 265 [some (.ref 222), some (ax_i x1), some (ax_i x2), some (ax_i x3), some (ax_i x4), some (ax_i x5)] [ax_i x4, ax_i x2, ax_i x1, .ref 222] rfl ?_
    refine ax_callI (pc' := 268) ⟨_, rfl⟩ ml_12_670 (rest := []) rfl (fun ss hs => ⟨_, _, ay_222 ss hs⟩) (Nat.le_of_ble_eq_true rfl) rfl rfl h (fun r1 V1 hg1 hr1 h => ?_)
    refine ax_if (p1 := 330) (p2 := 271) ⟨_, rfl⟩ (by decide) rfl hr1 (fun hc => ?_) (fun hc => ?_)
    · have h := h.1 hc
      refine ax_inc (x := x4) (pc' := 333) (L' := [some (.ref 222), some (ax_i x1), some (ax_i x2), some (ax_i x3), some (ax_i (x4 + 1)), some (ax_i x5)]) ⟨_, rfl⟩ rfl rfl rfl rfl ?_
      refine ax_mv 1 230 [some (.ref 222), some (ax_i x1), some (ax_i x2), some (ax_i x3), some (ax_i (x4 + 1)), some (ax_i x5)] [] rfl ?_
      exact h
    · have h := h.2 hc
      refine ax_mv 1 272 [some (.ref 222), some (ax_i x1), some (ax_i x2), some (ax_i x3), some (ax_i x4), some (ax_i x5)] [.ref 222] rfl ?_
      refine ax_gR (v := .ref 241) (pc' := 275) ⟨_, rfl⟩ fl_12_65 ay_222 rfl rfl ?_
      refine ax_mv 1 277 [some (.ref 222), some (ax_i x1), some (ax_i x2), some (ax_i x3), some (ax_i x4), some (ax_i x5)] [ax_i x5, .ref 241] rfl ?_
      obtain ⟨o14, h⟩ := h
      refine ax_ild (n := 701) (pc' := 278) ⟨_, rfl⟩ ay_241 (by decide) o14 rfl ?_
      refine ax_bip (pc' := 280) ⟨_, rfl⟩ (by decide) rfl ?_
      refine ax_if2 (p1 := 324) (p2 := 283) ⟨_, rfl⟩ (by decide) rfl (hg1 _ _) (by decide) (fun hc => ?_) (fun hc => ?_)
      · have h := h.2 hc
        refine ax_inc (x := x5) (pc' := 327) (L' := [some (.ref 222), some (ax_i x1), some (ax_i x2), some (ax_i x3), some (ax_i x4), some (ax_i (x5 + 1))]) ⟨_, rfl⟩ rfl rfl rfl rfl ?_
        refine ax_mv 1 248 [some (.ref 222), some (ax_i x1), some (ax_i x2), some (ax_i x3), some (ax_i x4), some (ax_i (x5 + 1))] [] rfl ?_
        exact h
      · have h := h.1 (Classical.not_not.mp hc)
        refine ax_mv 3 286 [some (.ref 222), some (ax_i x1), some (ax_i x2), some (ax_i x3), some (ax_i x4), some (ax_i x5)] [.ref 222, ax_i x1, .ref 222] rfl ?_
        refine ax_gR (v := .ref 254) (pc' := 289) ⟨_, rfl⟩ fl_12_104 ay_222 rfl rfl ?_
        refine ax_mv 1 291 [some (.ref 222), some (ax_i x1), some (ax_i x2), some (ax_i x3), some (ax_i x4), some (ax_i x5)] [ax_i x5, .ref 254, ax_i x1, .ref 222] rfl ?_
        obtain ⟨o15, h⟩ := h
        refine ax_ild (n := 701) (pc' := 292) ⟨_, rfl⟩ ay_254 (by decide) o15 rfl ?_
        refine ax_callI (pc' := 295) ⟨_, rfl⟩ ml_12_645 (rest := []) rfl (fun ss hs => ⟨_, _, ay_222 ss hs⟩) (Nat.le_of_ble_eq_true rfl) rfl rfl h (fun r2 V2 hg2 hr2 h => ?_)
        refine ax_if (p1 := 324) (p2 := 298) ⟨_, rfl⟩ (by decide) rfl hr2 (fun hc => ?_) (fun hc => ?_)
        · have h := h.1 hc
          refine ax_inc (x := x5) (pc' := 327) (L' := [some (.ref 222), some (ax_i x1), some (ax_i x2), some (ax_i x3), some (ax_i x4), some (ax_i (x5 + 1))]) ⟨_, rfl⟩ rfl rfl rfl rfl ?_
          refine ax_mv 1 248 [some (.ref 222), some (ax_i x1), some (ax_i x2), some (ax_i x3), some (ax_i x4), some (ax_i (x5 + 1))] [] rfl ?_
          exact h
        · have h := h.2 hc
          refine ax_mv 1 299 [some (.ref 222), some (ax_i x1), some (ax_i x2), some (ax_i x3), some (ax_i x4), some (ax_i x5)] [.ref 222] rfl ?_
          refine ax_gR (v := .ref 292) (pc' := 302) ⟨_, rfl⟩ fl_12_218 ay_222 rfl rfl ?_
          refine ax_mv 2 304 [some (.ref 222), some (ax_i x1), some (ax_i x2), some (ax_i x3), some (ax_i x4), some (ax_i x5)] [.ref 222, ax_i x3, .ref 292] rfl ?_
          refine ax_gR (v := .ref 257) (pc' := 307) ⟨_, rfl⟩ fl_12_113 ay_222 rfl rfl ?_
          refine ax_mv 1 309 [some (.ref 222), some (ax_i x1), some (ax_i x2), some (ax_i x3), some (ax_i x4), some (ax_i x5)] [ax_i x5, .ref 257, ax_i x3, .ref 292] rfl ?_
          obtain ⟨o16, h⟩ := h
          refine ax_ild (n := 701) (pc' := 310) ⟨_, rfl⟩ ay_257 (by decide) o16 rfl ?_
          refine ax_add (pc' := 311) ⟨_, rfl⟩ rfl ?_
          refine ax_mv 3 314 [some (.ref 222), some (ax_i x1), some (ax_i x2), some (ax_i x3), some (ax_i x4), some (ax_i x5)] [.ref 222, ax_i x1, .ref 222, ax_i (x3 + (V2 257 x5)), .ref 292] rfl ?_
          refine ax_gR (v := .ref 245) (pc' := 317) ⟨_, rfl⟩ fl_12_77 ay_222 rfl rfl ?_
          refine ax_mv 1 319 [some (.ref 222), some (ax_i x1), some (ax_i x2), some (ax_i x3), some (ax_i x4), some (ax_i x5)] [ax_i x5, .ref 245, ax_i x1, .ref 222, ax_i (x3 + (V2 257 x5)), .ref 292] rfl ?_
          obtain ⟨o17, h⟩ := h
          refine ax_ild (n := 701) (pc' := 320) ⟨_, rfl⟩ ay_245 (by decide) o17 rfl ?_
          refine ax_callI (pc' := 323) ⟨_, rfl⟩ ml_12_628 (rest := [ax_i (x3 + (V2 257 x5)), .ref 292]) rfl (fun ss hs => ⟨_, _, ay_222 ss hs⟩) (Nat.le_of_ble_eq_true rfl) rfl rfl h (fun r3 V3 hg3 hr3 h => ?_)
          obtain ⟨o18, h⟩ := h
          obtain ⟨V4, eV4⟩ : ∃ W9 : ax_V, W9 = ax_u V3 292 (x3 + (V2 257 x5)) r3 := ⟨_, rfl⟩
          have h := h V4 eV4
          have hg4 : ax_g V4 := eV4 ▸ ax_u_g hg3 hr3
          refine ax_ist (n := 600) (pc' := 324) ⟨_, rfl⟩ ay_ok ay_292 (by decide) o18 eV4 rfl ?_
          refine ax_inc (x := x5) (pc' := 327) (L' := [some (.ref 222), some (ax_i x1), some (ax_i x2), some (ax_i x3), some (ax_i x4), some (ax_i (x5 + 1))]) ⟨_, rfl⟩ rfl rfl rfl rfl ?_
          refine ax_mv 1 248 [some (.ref 222), some (ax_i x1), some (ax_i x2), some (ax_i x3), some (ax_i x4), some (ax_i (x5 + 1))] [] rfl ?_
          exact h
set_option maxRecDepth 20000 in
theorem r_Model_tickNode_339 {d : Nat} {V : ax_V} {Φ : ax_V → Prop} {Θ : ax_V → Prop} {x1 : Int} {x2 : Int} {x3 : Int} {x4 : Int} {y5 : Option Value} (hg : ax_g V) (hx1 : ax_rg x1) (hx2 : ax_rg x2) (hx3 : ax_rg x3) (hx4 : ax_rg x4) (hy5 : ax_y y5) (h : ((26 ≤ x4 → k_Model_tickNode_416 d x1 x2 x3 0 y5 V Φ Θ) ∧ (x4 < 26 → (0 ≤ (26 * x2) + x4 ∧ (26 * x2) + x4 < 240) ∧ ((V 236 ((26 * x2) + x4) = 0 → k_Model_tickNode_339 d x1 x2 x3 (x4 + 1) y5 V Φ Θ) ∧ (¬ V 236 ((26 * x2) + x4) = 0 → (0 ≤ (26 * x1) + x4 ∧ (26 * x1) + x4 < 240) ∧ ((V 294 ((26 * x1) + x4) = 0 → k_Model_tickNode_339 d x1 x2 x3 (x4 + 1) y5 V Φ Θ) ∧ (¬ V 294 ((26 * x1) + x4) = 0 → (0 ≤ (26 * x2) + x4 ∧ (26 * x2) + x4 < 240) ∧ (0 ≤ (26 * x1) + x4 ∧ (26 * x1) + x4 < 240) ∧ (0 ≤ x3 + (V 240 ((26 * x2) + x4)) ∧ x3 + (V 240 ((26 * x2) + x4)) < 600) ∧ (∀ V1, V1 = ax_u V 292 (x3 + (V 240 ((26 * x2) + x4))) (V 293 ((26 * x1) + x4)) → k_Model_tickNode_339 d x1 x2 x3 (x4 + 1) y5 V1 Φ Θ)))))))) : k_Model_tickNode_339 d x1 x2 x3 x4 y5 V Φ Θ := by
  refine ax_mv 1 341 [some (.ref 222), some (ax_i x1), some (ax_i x2), some (ax_i x3), some (ax_i x4), y5] [ax_i x4] rfl ?_
  refine ax_bip (pc' := 343) ⟨_, rfl⟩ (by decide) rfl ?_
  refine ax_if2 (p1 := 413) (p2 := 346) ⟨_, rfl⟩ (by decide) rfl hx4 (by decide) (fun hc => ?_) (fun hc => ?_)
  · have h := h.1 hc
    refine ax_mv 1 414 [some (.ref 222), some (ax_i x1), some (ax_i x2), some (ax_i x3), some (ax_i x4), y5] [ax_i 0] rfl ?_
    refine ax_sti (i := 0) (k := 4) (n := 2) (pc' := 416) (L' := [some (.ref 222), some (ax_i x1), some (ax_i x2), some (ax_i x3), some (ax_i 0), y5]) ⟨_, rfl⟩ rfl rfl rfl (Nat.le_of_ble_eq_true rfl) rfl rfl ?_
    exact h
  · have h := h.2 (Int.not_le.mp hc)
    refine ax_mv 1 347 [some (.ref 222), some (ax_i x1), some (ax_i x2), some (ax_i x3), some (ax_i x4), y5] [.ref 222] rfl ?_
    refine ax_gR (v := .ref 236) (pc' := 350) ⟨_, rfl⟩ fl_12_49 ay_222 rfl rfl ?_
    refine ax_bip (pc' := 352) ⟨_, rfl⟩ (by decide) rfl ?_
    refine ax_mv 1 353 [some (.ref 222), some (ax_i x1), some (ax_i x2), some (ax_i x3), some (ax_i x4), y5] [ax_i x2, ax_i 26, .ref 236] rfl ?_
    refine ax_mul (pc' := 354) ⟨_, rfl⟩ rfl ?_
    refine ax_mv 1 356 [some (.ref 222), some (ax_i x1), some (ax_i x2), some (ax_i x3), some (ax_i x4), y5] [ax_i x4, ax_i (26 * x2), .ref 236] rfl ?_
    refine ax_add (pc' := 357) ⟨_, rfl⟩ rfl ?_
    obtain ⟨o19, h⟩ := h
    refine ax_bld (n := 240) (pc' := 358) ⟨_, rfl⟩ ay_236 (by decide) o19 rfl ?_
    refine ax_if (p1 := 407) (p2 := 361) ⟨_, rfl⟩ (by decide) rfl (hg _ _) (fun hc => ?_) (fun hc => ?_)
    · have h := h.1 hc
      refine ax_inc (x := x4) (pc' := 410) (L' := [some (.ref 222), some (ax_i x1), some (ax_i x2), some (ax_i x3), some (ax_i (x4 + 1)), y5]) ⟨_, rfl⟩ rfl rfl rfl rfl ?_
      refine ax_mv 1 339 [some (.ref 222), some (ax_i x1), some (ax_i x2), some (ax_i x3), some (ax_i (x4 + 1)), y5] [] rfl ?_
      exact h
    · have h := h.2 hc
      refine ax_mv 1 362 [some (.ref 222), some (ax_i x1), some (ax_i x2), some (ax_i x3), some (ax_i x4), y5] [.ref 222] rfl ?_
      refine ax_gR (v := .ref 294) (pc' := 365) ⟨_, rfl⟩ fl_12_224 ay_222 rfl rfl ?_
      refine ax_bip (pc' := 367) ⟨_, rfl⟩ (by decide) rfl ?_
      refine ax_mv 1 368 [some (.ref 222), some (ax_i x1), some (ax_i x2), some (ax_i x3), some (ax_i x4), y5] [ax_i x1, ax_i 26, .ref 294] rfl ?_
      refine ax_mul (pc' := 369) ⟨_, rfl⟩ rfl ?_
      refine ax_mv 1 371 [some (.ref 222), some (ax_i x1), some (ax_i x2), some (ax_i x3), some (ax_i x4), y5] [ax_i x4, ax_i (26 * x1), .ref 294] rfl ?_
      refine ax_add (pc' := 372) ⟨_, rfl⟩ rfl ?_
      obtain ⟨o20, h⟩ := h
      refine ax_bld (n := 240) (pc' := 373) ⟨_, rfl⟩ ay_294 (by decide) o20 rfl ?_
      refine ax_if (p1 := 407) (p2 := 376) ⟨_, rfl⟩ (by decide) rfl (hg _ _) (fun hc => ?_) (fun hc => ?_)
      · have h := h.1 hc
        refine ax_inc (x := x4) (pc' := 410) (L' := [some (.ref 222), some (ax_i x1), some (ax_i x2), some (ax_i x3), some (ax_i (x4 + 1)), y5]) ⟨_, rfl⟩ rfl rfl rfl rfl ?_
        refine ax_mv 1 339 [some (.ref 222), some (ax_i x1), some (ax_i x2), some (ax_i x3), some (ax_i (x4 + 1)), y5] [] rfl ?_
        exact h
      · have h := h.2 hc
        refine ax_mv 1 377 [some (.ref 222), some (ax_i x1), some (ax_i x2), some (ax_i x3), some (ax_i x4), y5] [.ref 222] rfl ?_
        refine ax_gR (v := .ref 292) (pc' := 380) ⟨_, rfl⟩ fl_12_218 ay_222 rfl rfl ?_
        refine ax_mv 2 382 [some (.ref 222), some (ax_i x1), some (ax_i x2), some (ax_i x3), some (ax_i x4), y5] [.ref 222, ax_i x3, .ref 292] rfl ?_
        refine ax_gR (v := .ref 240) (pc' := 385) ⟨_, rfl⟩ fl_12_62 ay_222 rfl rfl ?_
        refine ax_bip (pc' := 387) ⟨_, rfl⟩ (by decide) rfl ?_
        refine ax_mv 1 388 [some (.ref 222), some (ax_i x1), some (ax_i x2), some (ax_i x3), some (ax_i x4), y5] [ax_i x2, ax_i 26, .ref 240, ax_i x3, .ref 292] rfl ?_
        refine ax_mul (pc' := 389) ⟨_, rfl⟩ rfl ?_
        refine ax_mv 1 391 [some (.ref 222), some (ax_i x1), some (ax_i x2), some (ax_i x3), some (ax_i x4), y5] [ax_i x4, ax_i (26 * x2), .ref 240, ax_i x3, .ref 292] rfl ?_
        refine ax_add (pc' := 392) ⟨_, rfl⟩ rfl ?_
        obtain ⟨o21, h⟩ := h
        refine ax_ild (n := 240) (pc' := 393) ⟨_, rfl⟩ ay_240 (by decide) o21 rfl ?_
        refine ax_add (pc' := 394) ⟨_, rfl⟩ rfl ?_
        refine ax_mv 1 395 [some (.ref 222), some (ax_i x1), some (ax_i x2), some (ax_i x3), some (ax_i x4), y5] [.ref 222, ax_i (x3 + (V 240 ((26 * x2) + x4))), .ref 292] rfl ?_
        refine ax_gR (v := .ref 293) (pc' := 398) ⟨_, rfl⟩ fl_12_221 ay_222 rfl rfl ?_
        refine ax_bip (pc' := 400) ⟨_, rfl⟩ (by decide) rfl ?_
        refine ax_mv 1 401 [some (.ref 222), some (ax_i x1), some (ax_i x2), some (ax_i x3), some (ax_i x4), y5] [ax_i x1, ax_i 26, .ref 293, ax_i (x3 + (V 240 ((26 * x2) + x4))), .ref 292] rfl ?_
        refine ax_mul (pc' := 402) ⟨_, rfl⟩ rfl ?_
        refine ax_mv 1 404 [some (.ref 222), some (ax_i x1), some (ax_i x2), some (ax_i x3), some (ax_i x4), y5] [ax_i x4, ax_i (26 * x1), .ref 293, ax_i (x3 + (V 240 ((26 * x2) + x4))), .ref 292] rfl ?_
        refine ax_add (pc' := 405) ⟨_, rfl⟩ rfl ?_
        obtain ⟨o22, h⟩ := h
        refine ax_ild (n := 240) (pc' := 406) ⟨_, rfl⟩ ay_293 (by decide) o22 rfl ?_
        obtain ⟨o23, h⟩ := h
        obtain ⟨V1, eV1⟩ : ∃ W9 : ax_V, W9 = ax_u V 292 (x3 + (V 240 ((26 * x2) + x4))) (V 293 ((26 * x1) + x4)) := ⟨_, rfl⟩
        have h := h V1 eV1
        have hg1 : ax_g V1 := eV1 ▸ ax_u_g hg (hg _ _)
        refine ax_ist (n := 600) (pc' := 407) ⟨_, rfl⟩ ay_ok ay_292 (by decide) o23 eV1 rfl ?_
        refine ax_inc (x := x4) (pc' := 410) (L' := [some (.ref 222), some (ax_i x1), some (ax_i x2), some (ax_i x3), some (ax_i (x4 + 1)), y5]) ⟨_, rfl⟩ rfl rfl rfl rfl ?_
        refine ax_mv 1 339 [some (.ref 222), some (ax_i x1), some (ax_i x2), some (ax_i x3), some (ax_i (x4 + 1)), y5] [] rfl ?_
        exact h
set_option maxRecDepth 20000 in
theorem r_Model_tickNode_416 {d : Nat} {V : ax_V} {Φ : ax_V → Prop} {Θ : ax_V → Prop} {x1 : Int} {x2 : Int} {x3 : Int} {x4 : Int} {y5 : Option Value} (hg : ax_g V) (hx1 : ax_rg x1) (hx2 : ax_rg x2) (hx3 : ax_rg x3) (hx4 : ax_rg x4) (hy5 : ax_y y5) (h : ((V 222 55 ≤ x4 → Φ V) ∧ (x4 < V 222 55 → (0 ≤ x4 ∧ x4 < 351) ∧ ((V 267 x4 = x2 → ax_N ay_lay d q_Model_leave [.ref 222, ax_i x1, ax_i x2, ax_i x3, ax_i x4] V (fun V1 => k_Model_tickNode_416 d x1 x2 x3 (x4 + 1) y5 V1 Φ Θ) Θ) ∧ (¬ V 267 x4 = x2 → k_Model_tickNode_416 d x1 x2 x3 (x4 + 1) y5 V Φ Θ))))) : k_Model_tickNode_416 d x1 x2 x3 x4 y5 V Φ Θ := by
  refine ax_mv 2 419 [some (.ref 222), some (ax_i x1), some (ax_i x2), some (ax_i x3), some (ax_i x4), y5] [.ref 222, ax_i x4] rfl ?_
  refine ax_gI (kI := 55) (pc' := 422) ⟨_, rfl⟩ fl_12_423 ay_222 rfl rfl rfl ?_
  refine ax_if2 (p1 := 451) (p2 := 425) ⟨_, rfl⟩ (by decide) rfl hx4 (hg _ _) (fun hc => ?_) (fun hc => ?_)
  · have h := h.1 hc
    exact ax_nret ⟨_, rfl⟩ rfl hg h
  · have h := h.2 (Int.not_le.mp hc)
    refine ax_mv 1 426 [some (.ref 222), some (ax_i x1), some (ax_i x2), some (ax_i x3), some (ax_i x4), y5] [.ref 222] rfl ?_
    refine ax_gR (v := .ref 267) (pc' := 429) ⟨_, rfl⟩ fl_12_143 ay_222 rfl rfl ?_
    refine ax_mv 1 431 [some (.ref 222), some (ax_i x1), some (ax_i x2), some (ax_i x3), some (ax_i x4), y5] [ax_i x4, .ref 267] rfl ?_
    obtain ⟨o24, h⟩ := h
    refine ax_ild (n := 351) (pc' := 432) ⟨_, rfl⟩ ay_267 (by decide) o24 rfl ?_
    refine ax_mv 1 433 [some (.ref 222), some (ax_i x1), some (ax_i x2), some (ax_i x3), some (ax_i x4), y5] [ax_i x2, ax_i (V 267 x4)] rfl ?_
    refine ax_if2 (p1 := 445) (p2 := 436) ⟨_, rfl⟩ (by decide) rfl (hg _ _) hx2 (fun hc => ?_) (fun hc => ?_)
    · have h := h.2 hc
      refine ax_inc (x := x4) (pc' := 448) (L' := [some (.ref 222), some (ax_i x1), some (ax_i x2), some (ax_i x3), some (ax_i (x4 + 1)), y5]) ⟨_, rfl⟩ rfl rfl rfl rfl ?_
      refine ax_mv 1 416 [some (.ref 222), some (ax_i x1), some (ax_i x2), some (ax_i x3), some (ax_i (x4 + 1)), y5] [] rfl ?_
      exact h
    · have h := h.1 (Classical.not_not.mp hc)
      refine ax_mv 5 442 [some (.ref 222), some (ax_i x1), some (ax_i x2), some (ax_i x3), some (ax_i x4), y5] [ax_i x4, ax_i x3, ax_i x2, ax_i x1, .ref 222] rfl ?_
      refine ax_callN (pc' := 445) ⟨_, rfl⟩ ml_12_676 (rest := []) rfl (fun ss hs => ⟨_, _, ay_222 ss hs⟩) (Nat.le_of_ble_eq_true rfl) rfl rfl h (fun V1 hg1 h => ?_)
      refine ax_inc (x := x4) (pc' := 448) (L' := [some (.ref 222), some (ax_i x1), some (ax_i x2), some (ax_i x3), some (ax_i (x4 + 1)), y5]) ⟨_, rfl⟩ rfl rfl rfl rfl ?_
      refine ax_mv 1 416 [some (.ref 222), some (ax_i x1), some (ax_i x2), some (ax_i x3), some (ax_i (x4 + 1)), y5] [] rfl ?_
      exact h
set_option maxRecDepth 20000 in
theorem r_Model_tickNode {d : Nat} {V : ax_V} {Φ : ax_V → Prop} {Θ : ax_V → Prop} {x1 : Int} {x2 : Int} {x3 : Int} (hg : ax_g V) (hx1 : ax_rg x1) (hx2 : ax_rg x2) (hx3 : ax_rg x3) (h : k_Model_tickNode_3 d x1 x2 x3 0 none V Φ Θ) : ax_N ay_lay (d + 1) q_Model_tickNode [.ref 222, ax_i x1, ax_i x2, ax_i x3] V Φ Θ := by
  refine ax_T.of (M := m_Model_tickNode) rfl (Nat.le_of_ble_eq_true rfl) ?_
  refine ax_mv 0 0 [some (.ref 222), some (ax_i x1), some (ax_i x2), some (ax_i x3), none, none] [] rfl ?_
  refine ax_mv 1 1 [some (.ref 222), some (ax_i x1), some (ax_i x2), some (ax_i x3), none, none] [ax_i 0] rfl ?_
  refine ax_sti (i := 0) (k := 4) (n := 2) (pc' := 3) (L' := [some (.ref 222), some (ax_i x1), some (ax_i x2), some (ax_i x3), some (ax_i 0), none]) ⟨_, rfl⟩ rfl rfl rfl (Nat.le_of_ble_eq_true rfl) rfl rfl ?_
  exact h
abbrev k_Model_doLetter_68 (d : Nat) (x1 : Int) (x2 : Int) (x3 : Int) (x4 : Int) (x5 : Int) (x6 : Int) (V : ax_V) (Φ : ax_V → Prop) (Θ : ax_V → Prop) : Prop := ax_R ay_lay ax_t d m_Model_doLetter 68 [some (.ref 222), some (ax_i x1), some (ax_i x2), some (ax_i x3), some (ax_i x4), some (ax_i x5), some (ax_i x6)] [] V (ax_Nr Φ) Θ
set_option maxRecDepth 20000 in
theorem r_Model_doLetter_68 {d : Nat} {V : ax_V} {Φ : ax_V → Prop} {Θ : ax_V → Prop} {x1 : Int} {x2 : Int} {x3 : Int} {x4 : Int} {x5 : Int} {x6 : Int} (hg : ax_g V) (hx1 : ax_rg x1) (hx2 : ax_rg x2) (hx3 : ax_rg x3) (hx4 : ax_rg x4) (hx5 : ax_rg x5) (hx6 : ax_rg x6) (h : ((V 222 44 ≤ x6 → Φ V) ∧ (x6 < V 222 44 → (0 ≤ x6 ∧ x6 < 351) ∧ (0 ≤ x5 ∧ x5 < 240) ∧ ((V 263 x6 = V 239 x5 → ax_I ay_lay d q_Model_holds [.ref 222, ax_i x1, ax_i x2, ax_i x6] V (fun r1 V1 => ((r1 = 0 → k_Model_doLetter_68 d x1 x2 x3 x4 x5 (x6 + 1) V1 Φ Θ) ∧ (¬ r1 = 0 → ax_I ay_lay d q_Model_hasLeft [.ref 222, ax_i x6, ax_i x4] V1 (fun r2 V2 => ((r2 = 0 → k_Model_doLetter_68 d x1 x2 x3 x4 x5 (x6 + 1) V2 Φ Θ) ∧ (¬ r2 = 0 → ax_N ay_lay d q_Model_doEquation [.ref 222, ax_i x1, ax_i x2, ax_i x3, ax_i x6] V2 (fun V3 => k_Model_doLetter_68 d x1 x2 x3 x4 x5 (x6 + 1) V3 Φ Θ) Θ))) Θ))) Θ) ∧ (¬ V 263 x6 = V 239 x5 → k_Model_doLetter_68 d x1 x2 x3 x4 x5 (x6 + 1) V Φ Θ))))) : k_Model_doLetter_68 d x1 x2 x3 x4 x5 x6 V Φ Θ := by
  refine ax_mv 2 71 [some (.ref 222), some (ax_i x1), some (ax_i x2), some (ax_i x3), some (ax_i x4), some (ax_i x5), some (ax_i x6)] [.ref 222, ax_i x6] rfl ?_
  refine ax_gI (kI := 44) (pc' := 74) ⟨_, rfl⟩ fl_12_414 ay_222 rfl rfl rfl ?_
  refine ax_if2 (p1 := 131) (p2 := 77) ⟨_, rfl⟩ (by decide) rfl hx6 (hg _ _) (fun hc => ?_) (fun hc => ?_)
  · have h := h.1 hc
    exact ax_nret ⟨_, rfl⟩ rfl hg h
  · have h := h.2 (Int.not_le.mp hc)
    refine ax_mv 1 78 [some (.ref 222), some (ax_i x1), some (ax_i x2), some (ax_i x3), some (ax_i x4), some (ax_i x5), some (ax_i x6)] [.ref 222] rfl ?_
    refine ax_gR (v := .ref 263) (pc' := 81) ⟨_, rfl⟩ fl_12_131 ay_222 rfl rfl ?_
    refine ax_mv 1 83 [some (.ref 222), some (ax_i x1), some (ax_i x2), some (ax_i x3), some (ax_i x4), some (ax_i x5), some (ax_i x6)] [ax_i x6, .ref 263] rfl ?_
    obtain ⟨o1, h⟩ := h
    refine ax_ild (n := 351) (pc' := 84) ⟨_, rfl⟩ ay_263 (by decide) o1 rfl ?_
    refine ax_mv 1 85 [some (.ref 222), some (ax_i x1), some (ax_i x2), some (ax_i x3), some (ax_i x4), some (ax_i x5), some (ax_i x6)] [.ref 222, ax_i (V 263 x6)] rfl ?_
    refine ax_gR (v := .ref 239) (pc' := 88) ⟨_, rfl⟩ fl_12_59 ay_222 rfl rfl ?_
    refine ax_mv 1 90 [some (.ref 222), some (ax_i x1), some (ax_i x2), some (ax_i x3), some (ax_i x4), some (ax_i x5), some (ax_i x6)] [ax_i x5, .ref 239, ax_i (V 263 x6)] rfl ?_
    obtain ⟨o2, h⟩ := h
    refine ax_ild (n := 240) (pc' := 91) ⟨_, rfl⟩ ay_239 (by decide) o2 rfl ?_
    refine ax_if2 (p1 := 125) (p2 := 94) ⟨_, rfl⟩ (by decide) rfl (hg _ _) (hg _ _) (fun hc => ?_) (fun hc => ?_)
    · have h := h.2 hc
      refine ax_inc (x := x6) (pc' := 128) (L' := [some (.ref 222), some (ax_i x1), some (ax_i x2), some (ax_i x3), some (ax_i x4), some (ax_i x5), some (ax_i (x6 + 1))]) ⟨_, rfl⟩ rfl rfl rfl rfl ?_
      refine ax_mv 1 68 [some (.ref 222), some (ax_i x1), some (ax_i x2), some (ax_i x3), some (ax_i x4), some (ax_i x5), some (ax_i (x6 + 1))] [] rfl ?_
      exact h
    · have h := h.1 (Classical.not_not.mp hc)
      refine ax_mv 4 99 [some (.ref 222), some (ax_i x1), some (ax_i x2), some (ax_i x3), some (ax_i x4), some (ax_i x5), some (ax_i x6)] [ax_i x6, ax_i x2, ax_i x1, .ref 222] rfl ?_
      refine ax_callI (pc' := 102) ⟨_, rfl⟩ ml_12_670 (rest := []) rfl (fun ss hs => ⟨_, _, ay_222 ss hs⟩) (Nat.le_of_ble_eq_true rfl) rfl rfl h (fun r1 V1 hg1 hr1 h => ?_)
      refine ax_if (p1 := 125) (p2 := 105) ⟨_, rfl⟩ (by decide) rfl hr1 (fun hc => ?_) (fun hc => ?_)
      · have h := h.1 hc
        refine ax_inc (x := x6) (pc' := 128) (L' := [some (.ref 222), some (ax_i x1), some (ax_i x2), some (ax_i x3), some (ax_i x4), some (ax_i x5), some (ax_i (x6 + 1))]) ⟨_, rfl⟩ rfl rfl rfl rfl ?_
        refine ax_mv 1 68 [some (.ref 222), some (ax_i x1), some (ax_i x2), some (ax_i x3), some (ax_i x4), some (ax_i x5), some (ax_i (x6 + 1))] [] rfl ?_
        exact h
      · have h := h.2 hc
        refine ax_mv 3 110 [some (.ref 222), some (ax_i x1), some (ax_i x2), some (ax_i x3), some (ax_i x4), some (ax_i x5), some (ax_i x6)] [ax_i x4, ax_i x6, .ref 222] rfl ?_
        refine ax_callI (pc' := 113) ⟨_, rfl⟩ ml_12_469 (rest := []) rfl (fun ss hs => ⟨_, _, ay_222 ss hs⟩) (Nat.le_of_ble_eq_true rfl) rfl rfl h (fun r2 V2 hg2 hr2 h => ?_)
        refine ax_if (p1 := 125) (p2 := 116) ⟨_, rfl⟩ (by decide) rfl hr2 (fun hc => ?_) (fun hc => ?_)
        · have h := h.1 hc
          refine ax_inc (x := x6) (pc' := 128) (L' := [some (.ref 222), some (ax_i x1), some (ax_i x2), some (ax_i x3), some (ax_i x4), some (ax_i x5), some (ax_i (x6 + 1))]) ⟨_, rfl⟩ rfl rfl rfl rfl ?_
          refine ax_mv 1 68 [some (.ref 222), some (ax_i x1), some (ax_i x2), some (ax_i x3), some (ax_i x4), some (ax_i x5), some (ax_i (x6 + 1))] [] rfl ?_
          exact h
        · have h := h.2 hc
          refine ax_mv 5 122 [some (.ref 222), some (ax_i x1), some (ax_i x2), some (ax_i x3), some (ax_i x4), some (ax_i x5), some (ax_i x6)] [ax_i x6, ax_i x3, ax_i x2, ax_i x1, .ref 222] rfl ?_
          refine ax_callN (pc' := 125) ⟨_, rfl⟩ ml_12_664 (rest := []) rfl (fun ss hs => ⟨_, _, ay_222 ss hs⟩) (Nat.le_of_ble_eq_true rfl) rfl rfl h (fun V3 hg3 h => ?_)
          refine ax_inc (x := x6) (pc' := 128) (L' := [some (.ref 222), some (ax_i x1), some (ax_i x2), some (ax_i x3), some (ax_i x4), some (ax_i x5), some (ax_i (x6 + 1))]) ⟨_, rfl⟩ rfl rfl rfl rfl ?_
          refine ax_mv 1 68 [some (.ref 222), some (ax_i x1), some (ax_i x2), some (ax_i x3), some (ax_i x4), some (ax_i x5), some (ax_i (x6 + 1))] [] rfl ?_
          exact h
set_option maxRecDepth 20000 in
theorem r_Model_doLetter {d : Nat} {V : ax_V} {Φ : ax_V → Prop} {Θ : ax_V → Prop} {x1 : Int} {x2 : Int} {x3 : Int} {x4 : Int} (hg : ax_g V) (hx1 : ax_rg x1) (hx2 : ax_rg x2) (hx3 : ax_rg x3) (hx4 : ax_rg x4) (h : (0 ≤ (26 * x1) + x4 ∧ (26 * x1) + x4 < 240) ∧ ((V 295 ((26 * x1) + x4) = 0 → (0 ≤ (26 * x2) + x4 ∧ (26 * x2) + x4 < 240) ∧ ((V 239 ((26 * x2) + x4) = -1 → (0 ≤ (26 * x2) + x4 ∧ (26 * x2) + x4 < 240) ∧ ax_N ay_lay d q_Model_doEquation [.ref 222, ax_i x1, ax_i x2, ax_i x3, ax_i (V 238 ((26 * x2) + x4))] V (fun V2 => Φ V2) Θ) ∧ (¬ V 239 ((26 * x2) + x4) = -1 → (0 ≤ (26 * x2) + x4 ∧ (26 * x2) + x4 < 240) ∧ ax_N ay_lay d q_Model_choose [.ref 222, ax_i x1, ax_i x2, ax_i x3, ax_i (V 239 ((26 * x2) + x4))] V (fun V1 => k_Model_doLetter_68 d x1 x2 x3 x4 ((26 * x2) + x4) 0 V1 Φ Θ) Θ))) ∧ (¬ V 295 ((26 * x1) + x4) = 0 → Φ V))) : ax_N ay_lay (d + 1) q_Model_doLetter [.ref 222, ax_i x1, ax_i x2, ax_i x3, ax_i x4] V Φ Θ := by
  refine ax_T.of (M := m_Model_doLetter) rfl (Nat.le_of_ble_eq_true rfl) ?_
  refine ax_mv 0 0 [some (.ref 222), some (ax_i x1), some (ax_i x2), some (ax_i x3), some (ax_i x4), none, none] [] rfl ?_
  refine ax_bip (pc' := 2) ⟨_, rfl⟩ (by decide) rfl ?_
  refine ax_mv 1 3 [some (.ref 222), some (ax_i x1), some (ax_i x2), some (ax_i x3), some (ax_i x4), none, none] [ax_i x2, ax_i 26] rfl ?_
  refine ax_mul (pc' := 4) ⟨_, rfl⟩ rfl ?_
  refine ax_mv 1 6 [some (.ref 222), some (ax_i x1), some (ax_i x2), some (ax_i x3), some (ax_i x4), none, none] [ax_i x4, ax_i (26 * x2)] rfl ?_
  refine ax_add (pc' := 7) ⟨_, rfl⟩ rfl ?_
  refine ax_sti (i := 0) (k := 5) (n := 2) (pc' := 9) (L' := [some (.ref 222), some (ax_i x1), some (ax_i x2), some (ax_i x3), some (ax_i x4), some (ax_i ((26 * x2) + x4)), none]) ⟨_, rfl⟩ rfl rfl rfl (Nat.le_of_ble_eq_true rfl) rfl rfl ?_
  refine ax_mv 1 10 [some (.ref 222), some (ax_i x1), some (ax_i x2), some (ax_i x3), some (ax_i x4), some (ax_i ((26 * x2) + x4)), none] [.ref 222] rfl ?_
  refine ax_gR (v := .ref 295) (pc' := 13) ⟨_, rfl⟩ fl_12_227 ay_222 rfl rfl ?_
  refine ax_bip (pc' := 15) ⟨_, rfl⟩ (by decide) rfl ?_
  refine ax_mv 1 16 [some (.ref 222), some (ax_i x1), some (ax_i x2), some (ax_i x3), some (ax_i x4), some (ax_i ((26 * x2) + x4)), none] [ax_i x1, ax_i 26, .ref 295] rfl ?_
  refine ax_mul (pc' := 17) ⟨_, rfl⟩ rfl ?_
  refine ax_mv 1 19 [some (.ref 222), some (ax_i x1), some (ax_i x2), some (ax_i x3), some (ax_i x4), some (ax_i ((26 * x2) + x4)), none] [ax_i x4, ax_i (26 * x1), .ref 295] rfl ?_
  refine ax_add (pc' := 20) ⟨_, rfl⟩ rfl ?_
  obtain ⟨o3, h⟩ := h
  refine ax_bld (n := 240) (pc' := 21) ⟨_, rfl⟩ ay_295 (by decide) o3 rfl ?_
  refine ax_if (p1 := 25) (p2 := 24) ⟨_, rfl⟩ (by decide) rfl (hg _ _) (fun hc => ?_) (fun hc => ?_)
  · have h := h.1 hc
    refine ax_mv 1 26 [some (.ref 222), some (ax_i x1), some (ax_i x2), some (ax_i x3), some (ax_i x4), some (ax_i ((26 * x2) + x4)), none] [.ref 222] rfl ?_
    refine ax_gR (v := .ref 239) (pc' := 29) ⟨_, rfl⟩ fl_12_59 ay_222 rfl rfl ?_
    refine ax_mv 1 31 [some (.ref 222), some (ax_i x1), some (ax_i x2), some (ax_i x3), some (ax_i x4), some (ax_i ((26 * x2) + x4)), none] [ax_i ((26 * x2) + x4), .ref 239] rfl ?_
    obtain ⟨o4, h⟩ := h
    refine ax_ild (n := 240) (pc' := 32) ⟨_, rfl⟩ ay_239 (by decide) o4 rfl ?_
    refine ax_mv 1 33 [some (.ref 222), some (ax_i x1), some (ax_i x2), some (ax_i x3), some (ax_i x4), some (ax_i ((26 * x2) + x4)), none] [ax_i (-1), ax_i (V 239 ((26 * x2) + x4))] rfl ?_
    refine ax_if2 (p1 := 51) (p2 := 36) ⟨_, rfl⟩ (by decide) rfl (hg _ _) (by decide) (fun hc => ?_) (fun hc => ?_)
    · have h := h.2 hc
      refine ax_mv 5 56 [some (.ref 222), some (ax_i x1), some (ax_i x2), some (ax_i x3), some (ax_i x4), some (ax_i ((26 * x2) + x4)), none] [.ref 222, ax_i x3, ax_i x2, ax_i x1, .ref 222] rfl ?_
      refine ax_gR (v := .ref 239) (pc' := 59) ⟨_, rfl⟩ fl_12_59 ay_222 rfl rfl ?_
      refine ax_mv 1 61 [some (.ref 222), some (ax_i x1), some (ax_i x2), some (ax_i x3), some (ax_i x4), some (ax_i ((26 * x2) + x4)), none] [ax_i ((26 * x2) + x4), .ref 239, ax_i x3, ax_i x2, ax_i x1, .ref 222] rfl ?_
      obtain ⟨o5, h⟩ := h
      refine ax_ild (n := 240) (pc' := 62) ⟨_, rfl⟩ ay_239 (by decide) o5 rfl ?_
      refine ax_callN (pc' := 65) ⟨_, rfl⟩ ml_12_667 (rest := []) rfl (fun ss hs => ⟨_, _, ay_222 ss hs⟩) (Nat.le_of_ble_eq_true rfl) rfl rfl h (fun V1 hg1 h => ?_)
      refine ax_mv 1 66 [some (.ref 222), some (ax_i x1), some (ax_i x2), some (ax_i x3), some (ax_i x4), some (ax_i ((26 * x2) + x4)), none] [ax_i 0] rfl ?_
      refine ax_sti (i := 0) (k := 6) (n := 2) (pc' := 68) (L' := [some (.ref 222), some (ax_i x1), some (ax_i x2), some (ax_i x3), some (ax_i x4), some (ax_i ((26 * x2) + x4)), some (ax_i 0)]) ⟨_, rfl⟩ rfl rfl rfl (Nat.le_of_ble_eq_true rfl) rfl rfl ?_
      exact h
    · have h := h.1 (Classical.not_not.mp hc)
      refine ax_mv 5 41 [some (.ref 222), some (ax_i x1), some (ax_i x2), some (ax_i x3), some (ax_i x4), some (ax_i ((26 * x2) + x4)), none] [.ref 222, ax_i x3, ax_i x2, ax_i x1, .ref 222] rfl ?_
      refine ax_gR (v := .ref 238) (pc' := 44) ⟨_, rfl⟩ fl_12_56 ay_222 rfl rfl ?_
      refine ax_mv 1 46 [some (.ref 222), some (ax_i x1), some (ax_i x2), some (ax_i x3), some (ax_i x4), some (ax_i ((26 * x2) + x4)), none] [ax_i ((26 * x2) + x4), .ref 238, ax_i x3, ax_i x2, ax_i x1, .ref 222] rfl ?_
      obtain ⟨o6, h⟩ := h
      refine ax_ild (n := 240) (pc' := 47) ⟨_, rfl⟩ ay_238 (by decide) o6 rfl ?_
      refine ax_callN (pc' := 50) ⟨_, rfl⟩ ml_12_664 (rest := []) rfl (fun ss hs => ⟨_, _, ay_222 ss hs⟩) (Nat.le_of_ble_eq_true rfl) rfl rfl h (fun V2 hg2 h => ?_)
      exact ax_nret ⟨_, rfl⟩ rfl hg2 h
  · have h := h.2 hc
    exact ax_nret ⟨_, rfl⟩ rfl hg h
abbrev k_Model_doEquation_47 (d : Nat) (x1 : Int) (y2 : Option Value) (y3 : Option Value) (x4 : Int) (x5 : Int) (x6 : Int) (x7 : Int) (y8 : Option Value) (V : ax_V) (Φ : ax_V → Prop) (Θ : ax_V → Prop) : Prop := ax_R ay_lay ax_t d m_Model_doEquation 47 [some (.ref 222), some (ax_i x1), y2, y3, some (ax_i x4), some (ax_i x5), some (ax_i x6), some (ax_i x7), y8] [] V (ax_Nr Φ) Θ
set_option maxRecDepth 20000 in
theorem r_Model_doEquation_47 {d : Nat} {V : ax_V} {Φ : ax_V → Prop} {Θ : ax_V → Prop} {x1 : Int} {y2 : Option Value} {y3 : Option Value} {x4 : Int} {x5 : Int} {x6 : Int} {x7 : Int} {y8 : Option Value} (hg : ax_g V) (hx1 : ax_rg x1) (hy2 : ax_y y2) (hy3 : ax_y y3) (hx4 : ax_rg x4) (hx5 : ax_rg x5) (hx6 : ax_rg x6) (hx7 : ax_rg x7) (hy8 : ax_y y8) (h : (0 ≤ x4 ∧ x4 < 351) ∧ ((V 260 x4 ≤ x7 → Φ V) ∧ (x7 < V 260 x4 → (0 ≤ x4 ∧ x4 < 351) ∧ (0 ≤ (V 259 x4) + x7 ∧ (V 259 x4) + x7 < 701) ∧ (0 ≤ (26 * x1) + (V 265 ((V 259 x4) + x7)) ∧ (26 * x1) + (V 265 ((V 259 x4) + x7)) < 240) ∧ (∀ V1, V1 = ax_u V 295 ((26 * x1) + (V 265 ((V 259 x4) + x7))) 1 → (0 ≤ (26 * x1) + (V 265 ((V 259 x4) + x7)) ∧ (26 * x1) + (V 265 ((V 259 x4) + x7)) < 240) ∧ (x5 = 0 ∨ x5 = 1) ∧ (∀ V2, V2 = ax_u V1 294 ((26 * x1) + (V 265 ((V 259 x4) + x7))) x5 → ((x5 = 0 → k_Model_doEquation_47 d x1 y2 y3 x4 x5 x6 (x7 + 1) (some (ax_i ((26 * x1) + (V 265 ((V 259 x4) + x7))))) V2 Φ Θ) ∧ (¬ x5 = 0 → (0 ≤ x4 ∧ x4 < 351) ∧ ((V2 260 x4 = 1 → ax_I ay_lay d q_Model_valueAt [.ref 222, ax_i x1, ax_i x6] V2 (fun r4 V4 => (0 ≤ (26 * x1) + (V 265 ((V 259 x4) + x7)) ∧ (26 * x1) + (V 265 ((V 259 x4) + x7)) < 240) ∧ (∀ V5, V5 = ax_u V4 293 ((26 * x1) + (V 265 ((V 259 x4) + x7))) r4 → k_Model_doEquation_47 d x1 y2 y3 x4 x5 x6 (x7 + 1) (some (ax_i ((26 * x1) + (V 265 ((V 259 x4) + x7))))) V5 Φ Θ)) Θ) ∧ (¬ V2 260 x4 = 1 → (0 ≤ x6 ∧ x6 < 701) ∧ (0 ≤ (26 * (V2 251 x6)) + x7 ∧ (26 * (V2 251 x6)) + x7 < 240) ∧ (0 ≤ (26 * (x1 + 1)) + (V2 231 ((26 * (V2 251 x6)) + x7)) ∧ (26 * (x1 + 1)) + (V2 231 ((26 * (V2 251 x6)) + x7)) < 240) ∧ (0 ≤ (26 * x1) + (V 265 ((V 259 x4) + x7)) ∧ (26 * x1) + (V 265 ((V 259 x4) + x7)) < 240) ∧ (∀ V3, V3 = ax_u V2 293 ((26 * x1) + (V 265 ((V 259 x4) + x7))) (V2 293 ((26 * (x1 + 1)) + (V2 231 ((26 * (V2 251 x6)) + x7)))) → k_Model_doEquation_47 d x1 y2 y3 x4 x5 x6 (x7 + 1) (some (ax_i ((26 * x1) + (V 265 ((V 259 x4) + x7))))) V3 Φ Θ)))))))))) : k_Model_doEquation_47 d x1 y2 y3 x4 x5 x6 x7 y8 V Φ Θ := by
  refine ax_mv 2 50 [some (.ref 222), some (ax_i x1), y2, y3, some (ax_i x4), some (ax_i x5), some (ax_i x6), some (ax_i x7), y8] [.ref 222, ax_i x7] rfl ?_
  refine ax_gR (v := .ref 260) (pc' := 53) ⟨_, rfl⟩ fl_12_122 ay_222 rfl rfl ?_
  refine ax_mv 1 55 [some (.ref 222), some (ax_i x1), y2, y3, some (ax_i x4), some (ax_i x5), some (ax_i x6), some (ax_i x7), y8] [ax_i x4, .ref 260, ax_i x7] rfl ?_
  obtain ⟨o1, h⟩ := h
  refine ax_ild (n := 351) (pc' := 56) ⟨_, rfl⟩ ay_260 (by decide) o1 rfl ?_
  refine ax_if2 (p1 := 170) (p2 := 59) ⟨_, rfl⟩ (by decide) rfl hx7 (hg _ _) (fun hc => ?_) (fun hc => ?_)
  · have h := h.1 hc
    exact ax_nret ⟨_, rfl⟩ rfl hg h
  · have h := h.2 (Int.not_le.mp hc)
    refine ax_bip (pc' := 61) ⟨_, rfl⟩ (by decide) rfl ?_
    refine ax_mv 1 62 [some (.ref 222), some (ax_i x1), y2, y3, some (ax_i x4), some (ax_i x5), some (ax_i x6), some (ax_i x7), y8] [ax_i x1, ax_i 26] rfl ?_
    refine ax_mul (pc' := 63) ⟨_, rfl⟩ rfl ?_
    refine ax_mv 1 64 [some (.ref 222), some (ax_i x1), y2, y3, some (ax_i x4), some (ax_i x5), some (ax_i x6), some (ax_i x7), y8] [.ref 222, ax_i (26 * x1)] rfl ?_
    refine ax_gR (v := .ref 265) (pc' := 67) ⟨_, rfl⟩ fl_12_137 ay_222 rfl rfl ?_
    refine ax_mv 1 68 [some (.ref 222), some (ax_i x1), y2, y3, some (ax_i x4), some (ax_i x5), some (ax_i x6), some (ax_i x7), y8] [.ref 222, .ref 265, ax_i (26 * x1)] rfl ?_
    refine ax_gR (v := .ref 259) (pc' := 71) ⟨_, rfl⟩ fl_12_119 ay_222 rfl rfl ?_
    refine ax_mv 1 73 [some (.ref 222), some (ax_i x1), y2, y3, some (ax_i x4), some (ax_i x5), some (ax_i x6), some (ax_i x7), y8] [ax_i x4, .ref 259, .ref 265, ax_i (26 * x1)] rfl ?_
    obtain ⟨o2, h⟩ := h
    refine ax_ild (n := 351) (pc' := 74) ⟨_, rfl⟩ ay_259 (by decide) o2 rfl ?_
    refine ax_mv 1 76 [some (.ref 222), some (ax_i x1), y2, y3, some (ax_i x4), some (ax_i x5), some (ax_i x6), some (ax_i x7), y8] [ax_i x7, ax_i (V 259 x4), .ref 265, ax_i (26 * x1)] rfl ?_
    refine ax_add (pc' := 77) ⟨_, rfl⟩ rfl ?_
    obtain ⟨o3, h⟩ := h
    refine ax_ild (n := 701) (pc' := 78) ⟨_, rfl⟩ ay_265 (by decide) o3 rfl ?_
    refine ax_add (pc' := 79) ⟨_, rfl⟩ rfl ?_
    refine ax_sti (i := 0) (k := 8) (n := 2) (pc' := 81) (L' := [some (.ref 222), some (ax_i x1), y2, y3, some (ax_i x4), some (ax_i x5), some (ax_i x6), some (ax_i x7), some (ax_i ((26 * x1) + (V 265 ((V 259 x4) + x7))))]) ⟨_, rfl⟩ rfl rfl rfl (Nat.le_of_ble_eq_true rfl) rfl rfl ?_
    refine ax_mv 1 82 [some (.ref 222), some (ax_i x1), y2, y3, some (ax_i x4), some (ax_i x5), some (ax_i x6), some (ax_i x7), some (ax_i ((26 * x1) + (V 265 ((V 259 x4) + x7))))] [.ref 222] rfl ?_
    refine ax_gR (v := .ref 295) (pc' := 85) ⟨_, rfl⟩ fl_12_227 ay_222 rfl rfl ?_
    refine ax_mv 2 88 [some (.ref 222), some (ax_i x1), y2, y3, some (ax_i x4), some (ax_i x5), some (ax_i x6), some (ax_i x7), some (ax_i ((26 * x1) + (V 265 ((V 259 x4) + x7))))] [ax_i 1, ax_i ((26 * x1) + (V 265 ((V 259 x4) + x7))), .ref 295] rfl ?_
    obtain ⟨o4, h⟩ := h
    obtain ⟨V1, eV1⟩ : ∃ W9 : ax_V, W9 = ax_u V 295 ((26 * x1) + (V 265 ((V 259 x4) + x7))) 1 := ⟨_, rfl⟩
    have h := h V1 eV1
    have hg1 : ax_g V1 := eV1 ▸ ax_u_g hg (by decide)
    refine ax_bst (n := 240) (pc' := 89) ⟨_, rfl⟩ ay_ok ay_295 (by decide) o4 (by decide) eV1 rfl ?_
    refine ax_mv 1 90 [some (.ref 222), some (ax_i x1), y2, y3, some (ax_i x4), some (ax_i x5), some (ax_i x6), some (ax_i x7), some (ax_i ((26 * x1) + (V 265 ((V 259 x4) + x7))))] [.ref 222] rfl ?_
    refine ax_gR (v := .ref 294) (pc' := 93) ⟨_, rfl⟩ fl_12_224 ay_222 rfl rfl ?_
    refine ax_mv 2 97 [some (.ref 222), some (ax_i x1), y2, y3, some (ax_i x4), some (ax_i x5), some (ax_i x6), some (ax_i x7), some (ax_i ((26 * x1) + (V 265 ((V 259 x4) + x7))))] [ax_i x5, ax_i ((26 * x1) + (V 265 ((V 259 x4) + x7))), .ref 294] rfl ?_
    obtain ⟨o5, o6, h⟩ := h
    obtain ⟨V2, eV2⟩ : ∃ W9 : ax_V, W9 = ax_u V1 294 ((26 * x1) + (V 265 ((V 259 x4) + x7))) x5 := ⟨_, rfl⟩
    have h := h V2 eV2
    have hg2 : ax_g V2 := eV2 ▸ ax_u_g hg1 hx5
    refine ax_bst (n := 240) (pc' := 98) ⟨_, rfl⟩ ay_ok ay_294 (by decide) o5 o6 eV2 rfl ?_
    refine ax_mv 1 100 [some (.ref 222), some (ax_i x1), y2, y3, some (ax_i x4), some (ax_i x5), some (ax_i x6), some (ax_i x7), some (ax_i ((26 * x1) + (V 265 ((V 259 x4) + x7))))] [ax_i x5] rfl ?_
    refine ax_if (p1 := 106) (p2 := 103) ⟨_, rfl⟩ (by decide) rfl hx5 (fun hc => ?_) (fun hc => ?_)
    · have h := h.2 hc
      refine ax_mv 1 107 [some (.ref 222), some (ax_i x1), y2, y3, some (ax_i x4), some (ax_i x5), some (ax_i x6), some (ax_i x7), some (ax_i ((26 * x1) + (V 265 ((V 259 x4) + x7))))] [.ref 222] rfl ?_
      refine ax_gR (v := .ref 293) (pc' := 110) ⟨_, rfl⟩ fl_12_221 ay_222 rfl rfl ?_
      refine ax_mv 2 113 [some (.ref 222), some (ax_i x1), y2, y3, some (ax_i x4), some (ax_i x5), some (ax_i x6), some (ax_i x7), some (ax_i ((26 * x1) + (V 265 ((V 259 x4) + x7))))] [.ref 222, ax_i ((26 * x1) + (V 265 ((V 259 x4) + x7))), .ref 293] rfl ?_
      refine ax_gR (v := .ref 260) (pc' := 116) ⟨_, rfl⟩ fl_12_122 ay_222 rfl rfl ?_
      refine ax_mv 1 118 [some (.ref 222), some (ax_i x1), y2, y3, some (ax_i x4), some (ax_i x5), some (ax_i x6), some (ax_i x7), some (ax_i ((26 * x1) + (V 265 ((V 259 x4) + x7))))] [ax_i x4, .ref 260, ax_i ((26 * x1) + (V 265 ((V 259 x4) + x7))), .ref 293] rfl ?_
      obtain ⟨o7, h⟩ := h
      refine ax_ild (n := 351) (pc' := 119) ⟨_, rfl⟩ ay_260 (by decide) o7 rfl ?_
      refine ax_mv 1 120 [some (.ref 222), some (ax_i x1), y2, y3, some (ax_i x4), some (ax_i x5), some (ax_i x6), some (ax_i x7), some (ax_i ((26 * x1) + (V 265 ((V 259 x4) + x7))))] [ax_i 1, ax_i (V2 260 x4), ax_i ((26 * x1) + (V 265 ((V 259 x4) + x7))), .ref 293] rfl ?_
      refine ax_if2 (p1 := 133) (p2 := 123) ⟨_, rfl⟩ (by decide) rfl (hg2 _ _) (by decide) (fun hc => ?_) (fun hc => ?_)
      · have h := h.2 hc
        refine ax_mv 1 134 [some (.ref 222), some (ax_i x1), y2, y3, some (ax_i x4), some (ax_i x5), some (ax_i x6), some (ax_i x7), some (ax_i ((26 * x1) + (V 265 ((V 259 x4) + x7))))] [.ref 222, ax_i ((26 * x1) + (V 265 ((V 259 x4) + x7))), .ref 293] rfl ?_
        refine ax_gR (v := .ref 293) (pc' := 137) ⟨_, rfl⟩ fl_12_221 ay_222 rfl rfl ?_
        refine ax_bip (pc' := 139) ⟨_, rfl⟩ (by decide) rfl ?_
        refine ax_mv 2 141 [some (.ref 222), some (ax_i x1), y2, y3, some (ax_i x4), some (ax_i x5), some (ax_i x6), some (ax_i x7), some (ax_i ((26 * x1) + (V 265 ((V 259 x4) + x7))))] [ax_i 1, ax_i x1, ax_i 26, .ref 293, ax_i ((26 * x1) + (V 265 ((V 259 x4) + x7))), .ref 293] rfl ?_
        refine ax_add (pc' := 142) ⟨_, rfl⟩ rfl ?_
        refine ax_mul (pc' := 143) ⟨_, rfl⟩ rfl ?_
        refine ax_mv 1 144 [some (.ref 222), some (ax_i x1), y2, y3, some (ax_i x4), some (ax_i x5), some (ax_i x6), some (ax_i x7), some (ax_i ((26 * x1) + (V 265 ((V 259 x4) + x7))))] [.ref 222, ax_i (26 * (x1 + 1)), .ref 293, ax_i ((26 * x1) + (V 265 ((V 259 x4) + x7))), .ref 293] rfl ?_
        refine ax_gR (v := .ref 231) (pc' := 147) ⟨_, rfl⟩ fl_12_34 ay_222 rfl rfl ?_
        refine ax_bip (pc' := 149) ⟨_, rfl⟩ (by decide) rfl ?_
        refine ax_mv 1 150 [some (.ref 222), some (ax_i x1), y2, y3, some (ax_i x4), some (ax_i x5), some (ax_i x6), some (ax_i x7), some (ax_i ((26 * x1) + (V 265 ((V 259 x4) + x7))))] [.ref 222, ax_i 26, .ref 231, ax_i (26 * (x1 + 1)), .ref 293, ax_i ((26 * x1) + (V 265 ((V 259 x4) + x7))), .ref 293] rfl ?_
        refine ax_gR (v := .ref 251) (pc' := 153) ⟨_, rfl⟩ fl_12_95 ay_222 rfl rfl ?_
        refine ax_mv 1 155 [some (.ref 222), some (ax_i x1), y2, y3, some (ax_i x4), some (ax_i x5), some (ax_i x6), some (ax_i x7), some (ax_i ((26 * x1) + (V 265 ((V 259 x4) + x7))))] [ax_i x6, .ref 251, ax_i 26, .ref 231, ax_i (26 * (x1 + 1)), .ref 293, ax_i ((26 * x1) + (V 265 ((V 259 x4) + x7))), .ref 293] rfl ?_
        obtain ⟨o8, h⟩ := h
        refine ax_ild (n := 701) (pc' := 156) ⟨_, rfl⟩ ay_251 (by decide) o8 rfl ?_
        refine ax_mul (pc' := 157) ⟨_, rfl⟩ rfl ?_
        refine ax_mv 1 159 [some (.ref 222), some (ax_i x1), y2, y3, some (ax_i x4), some (ax_i x5), some (ax_i x6), some (ax_i x7), some (ax_i ((26 * x1) + (V 265 ((V 259 x4) + x7))))] [ax_i x7, ax_i (26 * (V2 251 x6)), .ref 231, ax_i (26 * (x1 + 1)), .ref 293, ax_i ((26 * x1) + (V 265 ((V 259 x4) + x7))), .ref 293] rfl ?_
        refine ax_add (pc' := 160) ⟨_, rfl⟩ rfl ?_
        obtain ⟨o9, h⟩ := h
        refine ax_ild (n := 240) (pc' := 161) ⟨_, rfl⟩ ay_231 (by decide) o9 rfl ?_
        refine ax_add (pc' := 162) ⟨_, rfl⟩ rfl ?_
        obtain ⟨o10, h⟩ := h
        refine ax_ild (n := 240) (pc' := 163) ⟨_, rfl⟩ ay_293 (by decide) o10 rfl ?_
        obtain ⟨o11, h⟩ := h
        obtain ⟨V3, eV3⟩ : ∃ W9 : ax_V, W9 = ax_u V2 293 ((26 * x1) + (V 265 ((V 259 x4) + x7))) (V2 293 ((26 * (x1 + 1)) + (V2 231 ((26 * (V2 251 x6)) + x7)))) := ⟨_, rfl⟩
        have h := h V3 eV3
        have hg3 : ax_g V3 := eV3 ▸ ax_u_g hg2 (hg2 _ _)
        refine ax_ist (n := 240) (pc' := 164) ⟨_, rfl⟩ ay_ok ay_293 (by decide) o11 eV3 rfl ?_
        refine ax_inc (x := x7) (pc' := 167) (L' := [some (.ref 222), some (ax_i x1), y2, y3, some (ax_i x4), some (ax_i x5), some (ax_i x6), some (ax_i (x7 + 1)), some (ax_i ((26 * x1) + (V 265 ((V 259 x4) + x7))))]) ⟨_, rfl⟩ rfl rfl rfl rfl ?_
        refine ax_mv 1 47 [some (.ref 222), some (ax_i x1), y2, y3, some (ax_i x4), some (ax_i x5), some (ax_i x6), some (ax_i (x7 + 1)), some (ax_i ((26 * x1) + (V 265 ((V 259 x4) + x7))))] [] rfl ?_
        exact h
      · have h := h.1 (Classical.not_not.mp hc)
        refine ax_mv 3 127 [some (.ref 222), some (ax_i x1), y2, y3, some (ax_i x4), some (ax_i x5), some (ax_i x6), some (ax_i x7), some (ax_i ((26 * x1) + (V 265 ((V 259 x4) + x7))))] [ax_i x6, ax_i x1, .ref 222, ax_i ((26 * x1) + (V 265 ((V 259 x4) + x7))), .ref 293] rfl ?_
        refine ax_callI (pc' := 130) ⟨_, rfl⟩ ml_12_628 (rest := [ax_i ((26 * x1) + (V 265 ((V 259 x4) + x7))), .ref 293]) rfl (fun ss hs => ⟨_, _, ay_222 ss hs⟩) (Nat.le_of_ble_eq_true rfl) rfl rfl h (fun r4 V4 hg4 hr4 h => ?_)
        refine ax_mv 1 163 [some (.ref 222), some (ax_i x1), y2, y3, some (ax_i x4), some (ax_i x5), some (ax_i x6), some (ax_i x7), some (ax_i ((26 * x1) + (V 265 ((V 259 x4) + x7))))] [ax_i r4, ax_i ((26 * x1) + (V 265 ((V 259 x4) + x7))), .ref 293] rfl ?_
        obtain ⟨o12, h⟩ := h
        obtain ⟨V5, eV5⟩ : ∃ W9 : ax_V, W9 = ax_u V4 293 ((26 * x1) + (V 265 ((V 259 x4) + x7))) r4 := ⟨_, rfl⟩
        have h := h V5 eV5
        have hg5 : ax_g V5 := eV5 ▸ ax_u_g hg4 hr4
        refine ax_ist (n := 240) (pc' := 164) ⟨_, rfl⟩ ay_ok ay_293 (by decide) o12 eV5 rfl ?_
        refine ax_inc (x := x7) (pc' := 167) (L' := [some (.ref 222), some (ax_i x1), y2, y3, some (ax_i x4), some (ax_i x5), some (ax_i x6), some (ax_i (x7 + 1)), some (ax_i ((26 * x1) + (V 265 ((V 259 x4) + x7))))]) ⟨_, rfl⟩ rfl rfl rfl rfl ?_
        refine ax_mv 1 47 [some (.ref 222), some (ax_i x1), y2, y3, some (ax_i x4), some (ax_i x5), some (ax_i x6), some (ax_i (x7 + 1)), some (ax_i ((26 * x1) + (V 265 ((V 259 x4) + x7))))] [] rfl ?_
        exact h
    · have h := h.1 (Classical.not_not.mp hc)
      refine ax_mv 1 164 [some (.ref 222), some (ax_i x1), y2, y3, some (ax_i x4), some (ax_i x5), some (ax_i x6), some (ax_i x7), some (ax_i ((26 * x1) + (V 265 ((V 259 x4) + x7))))] [] rfl ?_
      refine ax_inc (x := x7) (pc' := 167) (L' := [some (.ref 222), some (ax_i x1), y2, y3, some (ax_i x4), some (ax_i x5), some (ax_i x6), some (ax_i (x7 + 1)), some (ax_i ((26 * x1) + (V 265 ((V 259 x4) + x7))))]) ⟨_, rfl⟩ rfl rfl rfl rfl ?_
      refine ax_mv 1 47 [some (.ref 222), some (ax_i x1), y2, y3, some (ax_i x4), some (ax_i x5), some (ax_i x6), some (ax_i (x7 + 1)), some (ax_i ((26 * x1) + (V 265 ((V 259 x4) + x7))))] [] rfl ?_
      exact h
set_option maxRecDepth 20000 in
theorem r_Model_doEquation {d : Nat} {V : ax_V} {Φ : ax_V → Prop} {Θ : ax_V → Prop} {x1 : Int} {x2 : Int} {x3 : Int} {x4 : Int} (hg : ax_g V) (hx1 : ax_rg x1) (hx2 : ax_rg x2) (hx3 : ax_rg x3) (hx4 : ax_rg x4) (h : (0 ≤ x4 ∧ x4 < 351) ∧ (0 ≤ x4 ∧ x4 < 351) ∧ ax_N ay_lay d q_Model_workAll [.ref 222, ax_i x1, ax_i x2, ax_i x3, ax_i (V 261 x4), ax_i (V 262 x4), ax_i 0] V (fun V1 => ax_I ay_lay d q_Model_eqClock [.ref 222, ax_i x4] V1 (fun r2 V2 => ax_I ay_lay d q_Model_isOn [.ref 222, ax_i x1, ax_i r2] V2 (fun r3 V3 => (0 ≤ x4 ∧ x4 < 351) ∧ k_Model_doEquation_47 d x1 (some (ax_i x2)) (some (ax_i x3)) x4 r3 (V3 262 x4) 0 none V3 Φ Θ) Θ) Θ) Θ) : ax_N ay_lay (d + 1) q_Model_doEquation [.ref 222, ax_i x1, ax_i x2, ax_i x3, ax_i x4] V Φ Θ := by
  refine ax_T.of (M := m_Model_doEquation) rfl (Nat.le_of_ble_eq_true rfl) ?_
  refine ax_mv 0 0 [some (.ref 222), some (ax_i x1), some (ax_i x2), some (ax_i x3), some (ax_i x4), none, none, none, none] [] rfl ?_
  refine ax_mv 5 5 [some (.ref 222), some (ax_i x1), some (ax_i x2), some (ax_i x3), some (ax_i x4), none, none, none, none] [.ref 222, ax_i x3, ax_i x2, ax_i x1, .ref 222] rfl ?_
  refine ax_gR (v := .ref 261) (pc' := 8) ⟨_, rfl⟩ fl_12_125 ay_222 rfl rfl ?_
  refine ax_mv 1 10 [some (.ref 222), some (ax_i x1), some (ax_i x2), some (ax_i x3), some (ax_i x4), none, none, none, none] [ax_i x4, .ref 261, ax_i x3, ax_i x2, ax_i x1, .ref 222] rfl ?_
  obtain ⟨o13, h⟩ := h
  refine ax_ild (n := 351) (pc' := 11) ⟨_, rfl⟩ ay_261 (by decide) o13 rfl ?_
  refine ax_mv 1 12 [some (.ref 222), some (ax_i x1), some (ax_i x2), some (ax_i x3), some (ax_i x4), none, none, none, none] [.ref 222, ax_i (V 261 x4), ax_i x3, ax_i x2, ax_i x1, .ref 222] rfl ?_
  refine ax_gR (v := .ref 262) (pc' := 15) ⟨_, rfl⟩ fl_12_128 ay_222 rfl rfl ?_
  refine ax_mv 1 17 [some (.ref 222), some (ax_i x1), some (ax_i x2), some (ax_i x3), some (ax_i x4), none, none, none, none] [ax_i x4, .ref 262, ax_i (V 261 x4), ax_i x3, ax_i x2, ax_i x1, .ref 222] rfl ?_
  obtain ⟨o14, h⟩ := h
  refine ax_ild (n := 351) (pc' := 18) ⟨_, rfl⟩ ay_262 (by decide) o14 rfl ?_
  refine ax_mv 1 19 [some (.ref 222), some (ax_i x1), some (ax_i x2), some (ax_i x3), some (ax_i x4), none, none, none, none] [ax_i 0, ax_i (V 262 x4), ax_i (V 261 x4), ax_i x3, ax_i x2, ax_i x1, .ref 222] rfl ?_
  refine ax_callN (pc' := 22) ⟨_, rfl⟩ ml_12_652 (rest := []) rfl (fun ss hs => ⟨_, _, ay_222 ss hs⟩) (Nat.le_of_ble_eq_true rfl) rfl rfl h (fun V1 hg1 h => ?_)
  refine ax_mv 4 27 [some (.ref 222), some (ax_i x1), some (ax_i x2), some (ax_i x3), some (ax_i x4), none, none, none, none] [ax_i x4, .ref 222, ax_i x1, .ref 222] rfl ?_
  refine ax_callI (pc' := 30) ⟨_, rfl⟩ ml_12_500 (rest := [ax_i x1, .ref 222]) rfl (fun ss hs => ⟨_, _, ay_222 ss hs⟩) (Nat.le_of_ble_eq_true rfl) rfl rfl h (fun r2 V2 hg2 hr2 h => ?_)
  refine ax_callI (pc' := 33) ⟨_, rfl⟩ ml_12_645 (rest := []) rfl (fun ss hs => ⟨_, _, ay_222 ss hs⟩) (Nat.le_of_ble_eq_true rfl) rfl rfl h (fun r3 V3 hg3 hr3 h => ?_)
  refine ax_sti (i := 0) (k := 5) (n := 2) (pc' := 35) (L' := [some (.ref 222), some (ax_i x1), some (ax_i x2), some (ax_i x3), some (ax_i x4), some (ax_i r3), none, none, none]) ⟨_, rfl⟩ rfl rfl rfl (Nat.le_of_ble_eq_true rfl) rfl rfl ?_
  refine ax_mv 1 36 [some (.ref 222), some (ax_i x1), some (ax_i x2), some (ax_i x3), some (ax_i x4), some (ax_i r3), none, none, none] [.ref 222] rfl ?_
  refine ax_gR (v := .ref 262) (pc' := 39) ⟨_, rfl⟩ fl_12_128 ay_222 rfl rfl ?_
  refine ax_mv 1 41 [some (.ref 222), some (ax_i x1), some (ax_i x2), some (ax_i x3), some (ax_i x4), some (ax_i r3), none, none, none] [ax_i x4, .ref 262] rfl ?_
  obtain ⟨o15, h⟩ := h
  refine ax_ild (n := 351) (pc' := 42) ⟨_, rfl⟩ ay_262 (by decide) o15 rfl ?_
  refine ax_sti (i := 0) (k := 6) (n := 2) (pc' := 44) (L' := [some (.ref 222), some (ax_i x1), some (ax_i x2), some (ax_i x3), some (ax_i x4), some (ax_i r3), some (ax_i (V3 262 x4)), none, none]) ⟨_, rfl⟩ rfl rfl rfl (Nat.le_of_ble_eq_true rfl) rfl rfl ?_
  refine ax_mv 1 45 [some (.ref 222), some (ax_i x1), some (ax_i x2), some (ax_i x3), some (ax_i x4), some (ax_i r3), some (ax_i (V3 262 x4)), none, none] [ax_i 0] rfl ?_
  refine ax_sti (i := 0) (k := 7) (n := 2) (pc' := 47) (L' := [some (.ref 222), some (ax_i x1), some (ax_i x2), some (ax_i x3), some (ax_i x4), some (ax_i r3), some (ax_i (V3 262 x4)), some (ax_i 0), none]) ⟨_, rfl⟩ rfl rfl rfl (Nat.le_of_ble_eq_true rfl) rfl rfl ?_
  exact h
abbrev k_Model_workAll_4 (d : Nat) (x1 : Int) (x2 : Int) (x3 : Int) (y4 : Option Value) (x5 : Int) (x6 : Int) (x7 : Int) (V : ax_V) (Φ : ax_V → Prop) (Θ : ax_V → Prop) : Prop := ax_R ay_lay ax_t d m_Model_workAll 4 [some (.ref 222), some (ax_i x1), some (ax_i x2), some (ax_i x3), y4, some (ax_i x5), some (ax_i x6), some (ax_i x7)] [] V (ax_Nr Φ) Θ
theorem r_Model_workAll_4 {d : Nat} {V : ax_V} {Φ : ax_V → Prop} {Θ : ax_V → Prop} {x1 : Int} {x2 : Int} {x3 : Int} {y4 : Option Value} {x5 : Int} {x6 : Int} {x7 : Int} (hg : ax_g V) (hx1 : ax_rg x1) (hx2 : ax_rg x2) (hx3 : ax_rg x3) (hy4 : ax_y y4) (hx5 : ax_rg x5) (hx6 : ax_rg x6) (hx7 : ax_rg x7) (h : ((x5 < x7 → Φ V) ∧ (x7 ≤ x5 → (0 ≤ x7 ∧ x7 < 701) ∧ ((V 256 x7 = x6 → (0 ≤ x7 ∧ x7 < 701) ∧ ax_I ay_lay d q_Model_isOn [.ref 222, ax_i x1, ax_i (V 254 x7)] V (fun r1 V1 => ((r1 = 0 → k_Model_workAll_4 d x1 x2 x3 y4 x5 x6 (x7 + 1) V1 Φ Θ) ∧ (¬ r1 = 0 → ax_N ay_lay d q_Model_work [.ref 222, ax_i x1, ax_i x2, ax_i x3, ax_i x7] V1 (fun V2 => k_Model_workAll_4 d x1 x2 x3 y4 x5 x6 (x7 + 1) V2 Φ Θ) Θ))) Θ) ∧ (¬ V 256 x7 = x6 → k_Model_workAll_4 d x1 x2 x3 y4 x5 x6 (x7 + 1) V Φ Θ))))) : k_Model_workAll_4 d x1 x2 x3 y4 x5 x6 x7 V Φ Θ := by
  refine ax_mv 2 8 [some (.ref 222), some (ax_i x1), some (ax_i x2), some (ax_i x3), y4, some (ax_i x5), some (ax_i x6), some (ax_i x7)] [ax_i x5, ax_i x7] rfl ?_
  refine ax_if2 (p1 := 53) (p2 := 11) ⟨_, rfl⟩ (by decide) rfl hx7 hx5 (fun hc => ?_) (fun hc => ?_)
  · have h := h.1 hc
    exact ax_nret ⟨_, rfl⟩ rfl hg h
  · have h := h.2 (Int.not_lt.mp hc)
    refine ax_mv 1 12 [some (.ref 222), some (ax_i x1), some (ax_i x2), some (ax_i x3), y4, some (ax_i x5), some (ax_i x6), some (ax_i x7)] [.ref 222] rfl ?_
    refine ax_gR (v := .ref 256) (pc' := 15) ⟨_, rfl⟩ fl_12_110 ay_222 rfl rfl ?_
    refine ax_mv 1 17 [some (.ref 222), some (ax_i x1), some (ax_i x2), some (ax_i x3), y4, some (ax_i x5), some (ax_i x6), some (ax_i x7)] [ax_i x7, .ref 256] rfl ?_
    obtain ⟨o1, h⟩ := h
    refine ax_bld (n := 701) (pc' := 18) ⟨_, rfl⟩ ay_256 (by decide) o1 rfl ?_
    refine ax_mv 1 20 [some (.ref 222), some (ax_i x1), some (ax_i x2), some (ax_i x3), y4, some (ax_i x5), some (ax_i x6), some (ax_i x7)] [ax_i x6, ax_i (V 256 x7)] rfl ?_
    refine ax_if2 (p1 := 47) (p2 := 23) ⟨_, rfl⟩ (by decide) rfl (hg _ _) hx6 (fun hc => ?_) (fun hc => ?_)
    · have h := h.2 hc
      refine ax_inc (x := x7) (pc' := 50) (L' := [some (.ref 222), some (ax_i x1), some (ax_i x2), some (ax_i x3), y4, some (ax_i x5), some (ax_i x6), some (ax_i (x7 + 1))]) ⟨_, rfl⟩ rfl rfl rfl rfl ?_
      refine ax_mv 1 4 [some (.ref 222), some (ax_i x1), some (ax_i x2), some (ax_i x3), y4, some (ax_i x5), some (ax_i x6), some (ax_i (x7 + 1))] [] rfl ?_
      exact h
    · have h := h.1 (Classical.not_not.mp hc)
      refine ax_mv 3 26 [some (.ref 222), some (ax_i x1), some (ax_i x2), some (ax_i x3), y4, some (ax_i x5), some (ax_i x6), some (ax_i x7)] [.ref 222, ax_i x1, .ref 222] rfl ?_
      refine ax_gR (v := .ref 254) (pc' := 29) ⟨_, rfl⟩ fl_12_104 ay_222 rfl rfl ?_
      refine ax_mv 1 31 [some (.ref 222), some (ax_i x1), some (ax_i x2), some (ax_i x3), y4, some (ax_i x5), some (ax_i x6), some (ax_i x7)] [ax_i x7, .ref 254, ax_i x1, .ref 222] rfl ?_
      obtain ⟨o2, h⟩ := h
      refine ax_ild (n := 701) (pc' := 32) ⟨_, rfl⟩ ay_254 (by decide) o2 rfl ?_
      refine ax_callI (pc' := 35) ⟨_, rfl⟩ ml_12_645 (rest := []) rfl (fun ss hs => ⟨_, _, ay_222 ss hs⟩) (Nat.le_of_ble_eq_true rfl) rfl rfl h (fun r1 V1 hg1 hr1 h => ?_)
      refine ax_if (p1 := 47) (p2 := 38) ⟨_, rfl⟩ (by decide) rfl hr1 (fun hc => ?_) (fun hc => ?_)
      · have h := h.1 hc
        refine ax_inc (x := x7) (pc' := 50) (L' := [some (.ref 222), some (ax_i x1), some (ax_i x2), some (ax_i x3), y4, some (ax_i x5), some (ax_i x6), some (ax_i (x7 + 1))]) ⟨_, rfl⟩ rfl rfl rfl rfl ?_
        refine ax_mv 1 4 [some (.ref 222), some (ax_i x1), some (ax_i x2), some (ax_i x3), y4, some (ax_i x5), some (ax_i x6), some (ax_i (x7 + 1))] [] rfl ?_
        exact h
      · have h := h.2 hc
        refine ax_mv 5 44 [some (.ref 222), some (ax_i x1), some (ax_i x2), some (ax_i x3), y4, some (ax_i x5), some (ax_i x6), some (ax_i x7)] [ax_i x7, ax_i x3, ax_i x2, ax_i x1, .ref 222] rfl ?_
        refine ax_callN (pc' := 47) ⟨_, rfl⟩ ml_12_648 (rest := []) rfl (fun ss hs => ⟨_, _, ay_222 ss hs⟩) (Nat.le_of_ble_eq_true rfl) rfl rfl h (fun V2 hg2 h => ?_)
        refine ax_inc (x := x7) (pc' := 50) (L' := [some (.ref 222), some (ax_i x1), some (ax_i x2), some (ax_i x3), y4, some (ax_i x5), some (ax_i x6), some (ax_i (x7 + 1))]) ⟨_, rfl⟩ rfl rfl rfl rfl ?_
        refine ax_mv 1 4 [some (.ref 222), some (ax_i x1), some (ax_i x2), some (ax_i x3), y4, some (ax_i x5), some (ax_i x6), some (ax_i (x7 + 1))] [] rfl ?_
        exact h
theorem r_Model_workAll {d : Nat} {V : ax_V} {Φ : ax_V → Prop} {Θ : ax_V → Prop} {x1 : Int} {x2 : Int} {x3 : Int} {x4 : Int} {x5 : Int} {x6 : Int} (hg : ax_g V) (hx1 : ax_rg x1) (hx2 : ax_rg x2) (hx3 : ax_rg x3) (hx4 : ax_rg x4) (hx5 : ax_rg x5) (hx6 : ax_rg x6) (h : k_Model_workAll_4 d x1 x2 x3 (some (ax_i x4)) x5 x6 x4 V Φ Θ) : ax_N ay_lay (d + 1) q_Model_workAll [.ref 222, ax_i x1, ax_i x2, ax_i x3, ax_i x4, ax_i x5, ax_i x6] V Φ Θ := by
  refine ax_T.of (M := m_Model_workAll) rfl (Nat.le_of_ble_eq_true rfl) ?_
  refine ax_mv 0 0 [some (.ref 222), some (ax_i x1), some (ax_i x2), some (ax_i x3), some (ax_i x4), some (ax_i x5), some (ax_i x6), none] [] rfl ?_
  refine ax_mv 1 2 [some (.ref 222), some (ax_i x1), some (ax_i x2), some (ax_i x3), some (ax_i x4), some (ax_i x5), some (ax_i x6), none] [ax_i x4] rfl ?_
  refine ax_sti (i := 0) (k := 7) (n := 2) (pc' := 4) (L' := [some (.ref 222), some (ax_i x1), some (ax_i x2), some (ax_i x3), some (ax_i x4), some (ax_i x5), some (ax_i x6), some (ax_i x4)]) ⟨_, rfl⟩ rfl rfl rfl (Nat.le_of_ble_eq_true rfl) rfl rfl ?_
  exact h
theorem r_Model_isOn {d : Nat} {V : ax_V} {Φ : Int → ax_V → Prop} {Θ : ax_V → Prop} {x1 : Int} {x2 : Int} (hg : ax_g V) (hx1 : ax_rg x1) (hx2 : ax_rg x2) (h : ((x2 = 0 → Φ 1 V) ∧ (¬ x2 = 0 → (0 ≤ (26 * x1) + (ax_div (x2 - 1) 2) ∧ (26 * x1) + (ax_div (x2 - 1) 2) < 240) ∧ ((V 294 ((26 * x1) + (ax_div (x2 - 1) 2)) = 0 → Φ 0 V) ∧ (¬ V 294 ((26 * x1) + (ax_div (x2 - 1) 2)) = 0 → (0 ≤ (26 * x1) + (ax_div (x2 - 1) 2) ∧ (26 * x1) + (ax_div (x2 - 1) 2) < 240) ∧ ((ax_rem x2 2 = 1 → ((V 293 ((26 * x1) + (ax_div (x2 - 1) 2)) = 1 → Φ 1 V) ∧ (¬ V 293 ((26 * x1) + (ax_div (x2 - 1) 2)) = 1 → Φ 0 V))) ∧ (¬ ax_rem x2 2 = 1 → ((V 293 ((26 * x1) + (ax_div (x2 - 1) 2)) = 0 → Φ 1 V) ∧ (¬ V 293 ((26 * x1) + (ax_div (x2 - 1) 2)) = 0 → Φ 0 V))))))))) : ax_I ay_lay (d + 1) q_Model_isOn [.ref 222, ax_i x1, ax_i x2] V Φ Θ := by
  refine ax_T.of (M := m_Model_isOn) rfl (Nat.le_of_ble_eq_true rfl) ?_
  refine ax_mv 0 0 [some (.ref 222), some (ax_i x1), some (ax_i x2), none] [] rfl ?_
  refine ax_mv 1 1 [some (.ref 222), some (ax_i x1), some (ax_i x2), none] [ax_i x2] rfl ?_
  refine ax_if (p1 := 6) (p2 := 4) ⟨_, rfl⟩ (by decide) rfl hx2 (fun hc => ?_) (fun hc => ?_)
  · have h := h.2 hc
    refine ax_bip (pc' := 8) ⟨_, rfl⟩ (by decide) rfl ?_
    refine ax_mv 1 9 [some (.ref 222), some (ax_i x1), some (ax_i x2), none] [ax_i x1, ax_i 26] rfl ?_
    refine ax_mul (pc' := 10) ⟨_, rfl⟩ rfl ?_
    refine ax_mv 2 12 [some (.ref 222), some (ax_i x1), some (ax_i x2), none] [ax_i 1, ax_i x2, ax_i (26 * x1)] rfl ?_
    refine ax_sub (pc' := 13) ⟨_, rfl⟩ rfl ?_
    refine ax_mv 1 14 [some (.ref 222), some (ax_i x1), some (ax_i x2), none] [ax_i 2, ax_i (x2 - 1), ax_i (26 * x1)] rfl ?_
    refine ax_rdiv (pc' := 15) ⟨_, rfl⟩ (by decide) (by decide) rfl ?_
    refine ax_add (pc' := 16) ⟨_, rfl⟩ rfl ?_
    refine ax_sti (i := 0) (k := 3) (n := 1) (pc' := 17) (L' := [some (.ref 222), some (ax_i x1), some (ax_i x2), some (ax_i ((26 * x1) + (ax_div (x2 - 1) 2)))]) ⟨_, rfl⟩ rfl rfl rfl (Nat.le_of_ble_eq_true rfl) rfl rfl ?_
    refine ax_mv 1 18 [some (.ref 222), some (ax_i x1), some (ax_i x2), some (ax_i ((26 * x1) + (ax_div (x2 - 1) 2)))] [.ref 222] rfl ?_
    refine ax_gR (v := .ref 294) (pc' := 21) ⟨_, rfl⟩ fl_12_224 ay_222 rfl rfl ?_
    refine ax_mv 1 22 [some (.ref 222), some (ax_i x1), some (ax_i x2), some (ax_i ((26 * x1) + (ax_div (x2 - 1) 2)))] [ax_i ((26 * x1) + (ax_div (x2 - 1) 2)), .ref 294] rfl ?_
    obtain ⟨o1, h⟩ := h
    refine ax_bld (n := 240) (pc' := 23) ⟨_, rfl⟩ ay_294 (by decide) o1 rfl ?_
    refine ax_if (p1 := 51) (p2 := 26) ⟨_, rfl⟩ (by decide) rfl (hg _ _) (fun hc => ?_) (fun hc => ?_)
    · have h := h.1 hc
      refine ax_mv 1 52 [some (.ref 222), some (ax_i x1), some (ax_i x2), some (ax_i ((26 * x1) + (ax_div (x2 - 1) 2)))] [ax_i 0] rfl ?_
      exact ax_iret ⟨_, rfl⟩ rfl (ax_nbv (by decide)) (by decide) hg h
    · have h := h.2 hc
      refine ax_mv 1 27 [some (.ref 222), some (ax_i x1), some (ax_i x2), some (ax_i ((26 * x1) + (ax_div (x2 - 1) 2)))] [.ref 222] rfl ?_
      refine ax_gR (v := .ref 293) (pc' := 30) ⟨_, rfl⟩ fl_12_221 ay_222 rfl rfl ?_
      refine ax_mv 1 31 [some (.ref 222), some (ax_i x1), some (ax_i x2), some (ax_i ((26 * x1) + (ax_div (x2 - 1) 2)))] [ax_i ((26 * x1) + (ax_div (x2 - 1) 2)), .ref 293] rfl ?_
      obtain ⟨o2, h⟩ := h
      refine ax_ild (n := 240) (pc' := 32) ⟨_, rfl⟩ ay_293 (by decide) o2 rfl ?_
      refine ax_mv 2 34 [some (.ref 222), some (ax_i x1), some (ax_i x2), some (ax_i ((26 * x1) + (ax_div (x2 - 1) 2)))] [ax_i 2, ax_i x2, ax_i (V 293 ((26 * x1) + (ax_div (x2 - 1) 2)))] rfl ?_
      refine ax_rrem (pc' := 35) ⟨_, rfl⟩ (by decide) (by decide) rfl ?_
      refine ax_mv 1 36 [some (.ref 222), some (ax_i x1), some (ax_i x2), some (ax_i ((26 * x1) + (ax_div (x2 - 1) 2)))] [ax_i 1, ax_i (ax_rem x2 2), ax_i (V 293 ((26 * x1) + (ax_div (x2 - 1) 2)))] rfl ?_
      refine ax_if2 (p1 := 43) (p2 := 39) ⟨_, rfl⟩ (by decide) rfl (ax_rg_of _) (by decide) (fun hc => ?_) (fun hc => ?_)
      · have h := h.2 hc
        refine ax_mv 1 44 [some (.ref 222), some (ax_i x1), some (ax_i x2), some (ax_i ((26 * x1) + (ax_div (x2 - 1) 2)))] [ax_i 0, ax_i (V 293 ((26 * x1) + (ax_div (x2 - 1) 2)))] rfl ?_
        refine ax_if2 (p1 := 51) (p2 := 47) ⟨_, rfl⟩ (by decide) rfl (hg _ _) (by decide) (fun hc => ?_) (fun hc => ?_)
        · have h := h.2 hc
          refine ax_mv 1 52 [some (.ref 222), some (ax_i x1), some (ax_i x2), some (ax_i ((26 * x1) + (ax_div (x2 - 1) 2)))] [ax_i 0] rfl ?_
          exact ax_iret ⟨_, rfl⟩ rfl (ax_nbv (by decide)) (by decide) hg h
        · have h := h.1 (Classical.not_not.mp hc)
          refine ax_mv 2 52 [some (.ref 222), some (ax_i x1), some (ax_i x2), some (ax_i ((26 * x1) + (ax_div (x2 - 1) 2)))] [ax_i 1] rfl ?_
          exact ax_iret ⟨_, rfl⟩ rfl (ax_nbv (by decide)) (by decide) hg h
      · have h := h.1 (Classical.not_not.mp hc)
        refine ax_mv 2 44 [some (.ref 222), some (ax_i x1), some (ax_i x2), some (ax_i ((26 * x1) + (ax_div (x2 - 1) 2)))] [ax_i 1, ax_i (V 293 ((26 * x1) + (ax_div (x2 - 1) 2)))] rfl ?_
        refine ax_if2 (p1 := 51) (p2 := 47) ⟨_, rfl⟩ (by decide) rfl (hg _ _) (by decide) (fun hc => ?_) (fun hc => ?_)
        · have h := h.2 hc
          refine ax_mv 1 52 [some (.ref 222), some (ax_i x1), some (ax_i x2), some (ax_i ((26 * x1) + (ax_div (x2 - 1) 2)))] [ax_i 0] rfl ?_
          exact ax_iret ⟨_, rfl⟩ rfl (ax_nbv (by decide)) (by decide) hg h
        · have h := h.1 (Classical.not_not.mp hc)
          refine ax_mv 2 52 [some (.ref 222), some (ax_i x1), some (ax_i x2), some (ax_i ((26 * x1) + (ax_div (x2 - 1) 2)))] [ax_i 1] rfl ?_
          exact ax_iret ⟨_, rfl⟩ rfl (ax_nbv (by decide)) (by decide) hg h
  · have h := h.1 (Classical.not_not.mp hc)
    refine ax_mv 1 5 [some (.ref 222), some (ax_i x1), some (ax_i x2), none] [ax_i 1] rfl ?_
    exact ax_iret ⟨_, rfl⟩ rfl (ax_nbv (by decide)) (by decide) hg h
