/-! RULES of the model's methods: a method each, and each loop of it. PRINTED by wip/gen/rules.py -/
abbrev k_Model_findLater_7 (d : Nat) (x1 : Int) (y2 : Option Value) (y3 : Option Value) (V : ax_V) (Φ : ax_V → Prop) (Θ : ax_V → Prop) : Prop := ax_R ay_lay ax_t d m_Model_findLater 7 [some (.ref 222), some (ax_i x1), y2, y3] [] V (ax_Nr Φ) Θ
abbrev k_Model_findLater_36 (d : Nat) (x1 : Int) (y2 : Option Value) (y3 : Option Value) (s0 : Int) (V : ax_V) (Φ : ax_V → Prop) (Θ : ax_V → Prop) : Prop := ax_R ay_lay ax_t d m_Model_findLater 36 [some (.ref 222), some (ax_i x1), y2, y3] [ax_i s0] V (ax_Nr Φ) Θ
abbrev k_Model_findLater_97 (d : Nat) (x1 : Int) (y2 : Option Value) (y3 : Option Value) (V : ax_V) (Φ : ax_V → Prop) (Θ : ax_V → Prop) : Prop := ax_R ay_lay ax_t d m_Model_findLater 97 [some (.ref 222), some (ax_i x1), y2, y3] [] V (ax_Nr Φ) Θ
abbrev k_Model_findLater_146 (d : Nat) (x1 : Int) (y2 : Option Value) (x3 : Int) (V : ax_V) (Φ : ax_V → Prop) (Θ : ax_V → Prop) : Prop := ax_R ay_lay ax_t d m_Model_findLater 146 [some (.ref 222), some (ax_i x1), y2, some (ax_i x3)] [] V (ax_Nr Φ) Θ
set_option maxRecDepth 20000 in
theorem r_Model_findLater_7 {d : Nat} {V : ax_V} {Φ : ax_V → Prop} {Θ : ax_V → Prop} {x1 : Int} {y2 : Option Value} {y3 : Option Value} (hg : ax_g V) (hx1 : ax_rg x1) (hy2 : ax_y y2) (hy3 : ax_y y3) (h : ((x1 < 0 → Φ V) ∧ (0 ≤ x1 → (0 ≤ x1 ∧ x1 < 701) ∧ ((V 256 x1 = 0 → (0 ≤ x1 ∧ x1 < 701) ∧ ((V 241 x1 = 6 → k_Model_findLater_36 d x1 y2 y3 1 V Φ Θ) ∧ (¬ V 241 x1 = 6 → k_Model_findLater_36 d x1 y2 y3 0 V Φ Θ))) ∧ (¬ V 256 x1 = 0 → k_Model_findLater_36 d x1 y2 y3 1 V Φ Θ))))) : k_Model_findLater_7 d x1 y2 y3 V Φ Θ := by
  refine ax_mv 1 8 [some (.ref 222), some (ax_i x1), y2, y3] [ax_i x1] rfl ?_
  refine ax_if (p1 := 179) (p2 := 11) ⟨_, rfl⟩ (by decide) rfl hx1 (fun hc => ?_) (fun hc => ?_)
  · have h := h.1 hc
    exact ax_nret ⟨_, rfl⟩ rfl hg h
  · have h := h.2 (Int.not_lt.mp hc)
    refine ax_mv 1 12 [some (.ref 222), some (ax_i x1), y2, y3] [.ref 222] rfl ?_
    refine ax_gR (v := .ref 256) (pc' := 15) ⟨_, rfl⟩ fl_12_110 ay_222 rfl rfl ?_
    refine ax_mv 1 16 [some (.ref 222), some (ax_i x1), y2, y3] [ax_i x1, .ref 256] rfl ?_
    obtain ⟨o1, h⟩ := h
    refine ax_bld (n := 701) (pc' := 17) ⟨_, rfl⟩ ay_256 (by decide) o1 rfl ?_
    refine ax_if (p1 := 31) (p2 := 20) ⟨_, rfl⟩ (by decide) rfl (hg _ _) (fun hc => ?_) (fun hc => ?_)
    · have h := h.2 hc
      refine ax_mv 2 36 [some (.ref 222), some (ax_i x1), y2, y3] [ax_i 1] rfl ?_
      exact h
    · have h := h.1 (Classical.not_not.mp hc)
      refine ax_mv 1 21 [some (.ref 222), some (ax_i x1), y2, y3] [.ref 222] rfl ?_
      refine ax_gR (v := .ref 241) (pc' := 24) ⟨_, rfl⟩ fl_12_65 ay_222 rfl rfl ?_
      refine ax_mv 1 25 [some (.ref 222), some (ax_i x1), y2, y3] [ax_i x1, .ref 241] rfl ?_
      obtain ⟨o2, h⟩ := h
      refine ax_ild (n := 701) (pc' := 26) ⟨_, rfl⟩ ay_241 (by decide) o2 rfl ?_
      refine ax_bip (pc' := 28) ⟨_, rfl⟩ (by decide) rfl ?_
      refine ax_if2 (p1 := 35) (p2 := 31) ⟨_, rfl⟩ (by decide) rfl (hg _ _) (by decide) (fun hc => ?_) (fun hc => ?_)
      · have h := h.2 hc
        refine ax_mv 1 36 [some (.ref 222), some (ax_i x1), y2, y3] [ax_i 0] rfl ?_
        exact h
      · have h := h.1 (Classical.not_not.mp hc)
        refine ax_mv 2 36 [some (.ref 222), some (ax_i x1), y2, y3] [ax_i 1] rfl ?_
        exact h
set_option maxRecDepth 20000 in
theorem r_Model_findLater_36 {d : Nat} {V : ax_V} {Φ : ax_V → Prop} {Θ : ax_V → Prop} {x1 : Int} {y2 : Option Value} {y3 : Option Value} {s0 : Int} (hg : ax_g V) (hx1 : ax_rg x1) (hy2 : ax_y y2) (hy3 : ax_y y3) (hs0 : ax_rg s0) (h : (0 ≤ x1 ∧ x1 < 701) ∧ ((V 245 x1 = -1 → (0 ≤ x1 ∧ x1 < 701) ∧ ((V 246 x1 = -1 → k_Model_findLater_97 d x1 (some (ax_i s0)) y3 V Φ Θ) ∧ (¬ V 246 x1 = -1 → (0 ≤ x1 ∧ x1 < 701) ∧ (0 ≤ x1 ∧ x1 < 701) ∧ (0 ≤ V 246 x1 ∧ V 246 x1 < 701) ∧ (V 256 x1 = 0 ∨ V 256 x1 = 1) ∧ (∀ V1, V1 = ax_u V 256 (V 246 x1) (V 256 x1) → k_Model_findLater_97 d x1 (some (ax_i s0)) y3 V1 Φ Θ)))) ∧ (¬ V 245 x1 = -1 → (0 ≤ x1 ∧ x1 < 701) ∧ ((V 241 x1 = 22 → (0 ≤ x1 ∧ x1 < 701) ∧ ((V 246 x1 = -1 → k_Model_findLater_97 d x1 (some (ax_i s0)) y3 V Φ Θ) ∧ (¬ V 246 x1 = -1 → (0 ≤ x1 ∧ x1 < 701) ∧ (0 ≤ x1 ∧ x1 < 701) ∧ (0 ≤ V 246 x1 ∧ V 246 x1 < 701) ∧ (V 256 x1 = 0 ∨ V 256 x1 = 1) ∧ (∀ V2, V2 = ax_u V 256 (V 246 x1) (V 256 x1) → k_Model_findLater_97 d x1 (some (ax_i s0)) y3 V2 Φ Θ)))) ∧ (¬ V 241 x1 = 22 → (0 ≤ x1 ∧ x1 < 701) ∧ (0 ≤ V 245 x1 ∧ V 245 x1 < 701) ∧ (s0 = 0 ∨ s0 = 1) ∧ (∀ V3, V3 = ax_u V 256 (V 245 x1) s0 → (0 ≤ x1 ∧ x1 < 701) ∧ ((V3 246 x1 = -1 → k_Model_findLater_97 d x1 (some (ax_i s0)) y3 V3 Φ Θ) ∧ (¬ V3 246 x1 = -1 → (0 ≤ x1 ∧ x1 < 701) ∧ (0 ≤ x1 ∧ x1 < 701) ∧ (0 ≤ V3 246 x1 ∧ V3 246 x1 < 701) ∧ (V3 256 x1 = 0 ∨ V3 256 x1 = 1) ∧ (∀ V4, V4 = ax_u V3 256 (V3 246 x1) (V3 256 x1) → k_Model_findLater_97 d x1 (some (ax_i s0)) y3 V4 Φ Θ))))))))) : k_Model_findLater_36 d x1 y2 y3 s0 V Φ Θ := by
  refine ax_sti (i := 0) (k := 2) (n := 1) (pc' := 37) (L' := [some (.ref 222), some (ax_i x1), some (ax_i s0), y3]) ⟨_, rfl⟩ rfl rfl rfl (Nat.le_of_ble_eq_true rfl) rfl rfl ?_
  refine ax_mv 1 38 [some (.ref 222), some (ax_i x1), some (ax_i s0), y3] [.ref 222] rfl ?_
  refine ax_gR (v := .ref 245) (pc' := 41) ⟨_, rfl⟩ fl_12_77 ay_222 rfl rfl ?_
  refine ax_mv 1 42 [some (.ref 222), some (ax_i x1), some (ax_i s0), y3] [ax_i x1, .ref 245] rfl ?_
  obtain ⟨o3, h⟩ := h
  refine ax_ild (n := 701) (pc' := 43) ⟨_, rfl⟩ ay_245 (by decide) o3 rfl ?_
  refine ax_mv 1 44 [some (.ref 222), some (ax_i x1), some (ax_i s0), y3] [ax_i (-1), ax_i (V 245 x1)] rfl ?_
  refine ax_if2 (p1 := 70) (p2 := 47) ⟨_, rfl⟩ (by decide) rfl (hg _ _) (by decide) (fun hc => ?_) (fun hc => ?_)
  · have h := h.1 hc
    refine ax_mv 1 71 [some (.ref 222), some (ax_i x1), some (ax_i s0), y3] [.ref 222] rfl ?_
    refine ax_gR (v := .ref 246) (pc' := 74) ⟨_, rfl⟩ fl_12_80 ay_222 rfl rfl ?_
    refine ax_mv 1 75 [some (.ref 222), some (ax_i x1), some (ax_i s0), y3] [ax_i x1, .ref 246] rfl ?_
    obtain ⟨o4, h⟩ := h
    refine ax_ild (n := 701) (pc' := 76) ⟨_, rfl⟩ ay_246 (by decide) o4 rfl ?_
    refine ax_mv 1 77 [some (.ref 222), some (ax_i x1), some (ax_i s0), y3] [ax_i (-1), ax_i (V 246 x1)] rfl ?_
    refine ax_if2 (p1 := 97) (p2 := 80) ⟨_, rfl⟩ (by decide) rfl (hg _ _) (by decide) (fun hc => ?_) (fun hc => ?_)
    · have h := h.1 hc
      exact h
    · have h := h.2 hc
      refine ax_mv 1 81 [some (.ref 222), some (ax_i x1), some (ax_i s0), y3] [.ref 222] rfl ?_
      refine ax_gR (v := .ref 256) (pc' := 84) ⟨_, rfl⟩ fl_12_110 ay_222 rfl rfl ?_
      refine ax_mv 1 85 [some (.ref 222), some (ax_i x1), some (ax_i s0), y3] [.ref 222, .ref 256] rfl ?_
      refine ax_gR (v := .ref 246) (pc' := 88) ⟨_, rfl⟩ fl_12_80 ay_222 rfl rfl ?_
      refine ax_mv 1 89 [some (.ref 222), some (ax_i x1), some (ax_i s0), y3] [ax_i x1, .ref 246, .ref 256] rfl ?_
      obtain ⟨o5, h⟩ := h
      refine ax_ild (n := 701) (pc' := 90) ⟨_, rfl⟩ ay_246 (by decide) o5 rfl ?_
      refine ax_mv 1 91 [some (.ref 222), some (ax_i x1), some (ax_i s0), y3] [.ref 222, ax_i (V 246 x1), .ref 256] rfl ?_
      refine ax_gR (v := .ref 256) (pc' := 94) ⟨_, rfl⟩ fl_12_110 ay_222 rfl rfl ?_
      refine ax_mv 1 95 [some (.ref 222), some (ax_i x1), some (ax_i s0), y3] [ax_i x1, .ref 256, ax_i (V 246 x1), .ref 256] rfl ?_
      obtain ⟨o6, h⟩ := h
      refine ax_bld (n := 701) (pc' := 96) ⟨_, rfl⟩ ay_256 (by decide) o6 rfl ?_
      obtain ⟨o7, o8, h⟩ := h
      obtain ⟨V1, eV1⟩ : ∃ W9 : ax_V, W9 = ax_u V 256 (V 246 x1) (V 256 x1) := ⟨_, rfl⟩
      have h := h V1 eV1
      have hg1 : ax_g V1 := eV1 ▸ ax_u_g hg (hg _ _)
      refine ax_bst (n := 701) (pc' := 97) ⟨_, rfl⟩ ay_ok ay_256 (by decide) o7 o8 eV1 rfl ?_
      exact h
  · have h := h.2 hc
    refine ax_mv 1 48 [some (.ref 222), some (ax_i x1), some (ax_i s0), y3] [.ref 222] rfl ?_
    refine ax_gR (v := .ref 241) (pc' := 51) ⟨_, rfl⟩ fl_12_65 ay_222 rfl rfl ?_
    refine ax_mv 1 52 [some (.ref 222), some (ax_i x1), some (ax_i s0), y3] [ax_i x1, .ref 241] rfl ?_
    obtain ⟨o9, h⟩ := h
    refine ax_ild (n := 701) (pc' := 53) ⟨_, rfl⟩ ay_241 (by decide) o9 rfl ?_
    refine ax_bip (pc' := 55) ⟨_, rfl⟩ (by decide) rfl ?_
    refine ax_if2 (p1 := 70) (p2 := 58) ⟨_, rfl⟩ (by decide) rfl (hg _ _) (by decide) (fun hc => ?_) (fun hc => ?_)
    · have h := h.1 hc
      refine ax_mv 1 71 [some (.ref 222), some (ax_i x1), some (ax_i s0), y3] [.ref 222] rfl ?_
      refine ax_gR (v := .ref 246) (pc' := 74) ⟨_, rfl⟩ fl_12_80 ay_222 rfl rfl ?_
      refine ax_mv 1 75 [some (.ref 222), some (ax_i x1), some (ax_i s0), y3] [ax_i x1, .ref 246] rfl ?_
      obtain ⟨o10, h⟩ := h
      refine ax_ild (n := 701) (pc' := 76) ⟨_, rfl⟩ ay_246 (by decide) o10 rfl ?_
      refine ax_mv 1 77 [some (.ref 222), some (ax_i x1), some (ax_i s0), y3] [ax_i (-1), ax_i (V 246 x1)] rfl ?_
      refine ax_if2 (p1 := 97) (p2 := 80) ⟨_, rfl⟩ (by decide) rfl (hg _ _) (by decide) (fun hc => ?_) (fun hc => ?_)
      · have h := h.1 hc
        exact h
      · have h := h.2 hc
        refine ax_mv 1 81 [some (.ref 222), some (ax_i x1), some (ax_i s0), y3] [.ref 222] rfl ?_
        refine ax_gR (v := .ref 256) (pc' := 84) ⟨_, rfl⟩ fl_12_110 ay_222 rfl rfl ?_
        refine ax_mv 1 85 [some (.ref 222), some (ax_i x1), some (ax_i s0), y3] [.ref 222, .ref 256] rfl ?_
        refine ax_gR (v := .ref 246) (pc' := 88) ⟨_, rfl⟩ fl_12_80 ay_222 rfl rfl ?_
        refine ax_mv 1 89 [some (.ref 222), some (ax_i x1), some (ax_i s0), y3] [ax_i x1, .ref 246, .ref 256] rfl ?_
        obtain ⟨o11, h⟩ := h
        refine ax_ild (n := 701) (pc' := 90) ⟨_, rfl⟩ ay_246 (by decide) o11 rfl ?_
        refine ax_mv 1 91 [some (.ref 222), some (ax_i x1), some (ax_i s0), y3] [.ref 222, ax_i (V 246 x1), .ref 256] rfl ?_
        refine ax_gR (v := .ref 256) (pc' := 94) ⟨_, rfl⟩ fl_12_110 ay_222 rfl rfl ?_
        refine ax_mv 1 95 [some (.ref 222), some (ax_i x1), some (ax_i s0), y3] [ax_i x1, .ref 256, ax_i (V 246 x1), .ref 256] rfl ?_
        obtain ⟨o12, h⟩ := h
        refine ax_bld (n := 701) (pc' := 96) ⟨_, rfl⟩ ay_256 (by decide) o12 rfl ?_
        obtain ⟨o13, o14, h⟩ := h
        obtain ⟨V2, eV2⟩ : ∃ W9 : ax_V, W9 = ax_u V 256 (V 246 x1) (V 256 x1) := ⟨_, rfl⟩
        have h := h V2 eV2
        have hg2 : ax_g V2 := eV2 ▸ ax_u_g hg (hg _ _)
        refine ax_bst (n := 701) (pc' := 97) ⟨_, rfl⟩ ay_ok ay_256 (by decide) o13 o14 eV2 rfl ?_
        exact h
    · have h := h.2 hc
      refine ax_mv 1 59 [some (.ref 222), some (ax_i x1), some (ax_i s0), y3] [.ref 222] rfl ?_
      refine ax_gR (v := .ref 256) (pc' := 62) ⟨_, rfl⟩ fl_12_110 ay_222 rfl rfl ?_
      refine ax_mv 1 63 [some (.ref 222), some (ax_i x1), some (ax_i s0), y3] [.ref 222, .ref 256] rfl ?_
      refine ax_gR (v := .ref 245) (pc' := 66) ⟨_, rfl⟩ fl_12_77 ay_222 rfl rfl ?_
      refine ax_mv 1 67 [some (.ref 222), some (ax_i x1), some (ax_i s0), y3] [ax_i x1, .ref 245, .ref 256] rfl ?_
      obtain ⟨o15, h⟩ := h
      refine ax_ild (n := 701) (pc' := 68) ⟨_, rfl⟩ ay_245 (by decide) o15 rfl ?_
      refine ax_mv 1 69 [some (.ref 222), some (ax_i x1), some (ax_i s0), y3] [ax_i s0, ax_i (V 245 x1), .ref 256] rfl ?_
      obtain ⟨o16, o17, h⟩ := h
      obtain ⟨V3, eV3⟩ : ∃ W9 : ax_V, W9 = ax_u V 256 (V 245 x1) s0 := ⟨_, rfl⟩
      have h := h V3 eV3
      have hg3 : ax_g V3 := eV3 ▸ ax_u_g hg hs0
      refine ax_bst (n := 701) (pc' := 70) ⟨_, rfl⟩ ay_ok ay_256 (by decide) o16 o17 eV3 rfl ?_
      refine ax_mv 1 71 [some (.ref 222), some (ax_i x1), some (ax_i s0), y3] [.ref 222] rfl ?_
      refine ax_gR (v := .ref 246) (pc' := 74) ⟨_, rfl⟩ fl_12_80 ay_222 rfl rfl ?_
      refine ax_mv 1 75 [some (.ref 222), some (ax_i x1), some (ax_i s0), y3] [ax_i x1, .ref 246] rfl ?_
      obtain ⟨o18, h⟩ := h
      refine ax_ild (n := 701) (pc' := 76) ⟨_, rfl⟩ ay_246 (by decide) o18 rfl ?_
      refine ax_mv 1 77 [some (.ref 222), some (ax_i x1), some (ax_i s0), y3] [ax_i (-1), ax_i (V3 246 x1)] rfl ?_
      refine ax_if2 (p1 := 97) (p2 := 80) ⟨_, rfl⟩ (by decide) rfl (hg3 _ _) (by decide) (fun hc => ?_) (fun hc => ?_)
      · have h := h.1 hc
        exact h
      · have h := h.2 hc
        refine ax_mv 1 81 [some (.ref 222), some (ax_i x1), some (ax_i s0), y3] [.ref 222] rfl ?_
        refine ax_gR (v := .ref 256) (pc' := 84) ⟨_, rfl⟩ fl_12_110 ay_222 rfl rfl ?_
        refine ax_mv 1 85 [some (.ref 222), some (ax_i x1), some (ax_i s0), y3] [.ref 222, .ref 256] rfl ?_
        refine ax_gR (v := .ref 246) (pc' := 88) ⟨_, rfl⟩ fl_12_80 ay_222 rfl rfl ?_
        refine ax_mv 1 89 [some (.ref 222), some (ax_i x1), some (ax_i s0), y3] [ax_i x1, .ref 246, .ref 256] rfl ?_
        obtain ⟨o19, h⟩ := h
        refine ax_ild (n := 701) (pc' := 90) ⟨_, rfl⟩ ay_246 (by decide) o19 rfl ?_
        refine ax_mv 1 91 [some (.ref 222), some (ax_i x1), some (ax_i s0), y3] [.ref 222, ax_i (V3 246 x1), .ref 256] rfl ?_
        refine ax_gR (v := .ref 256) (pc' := 94) ⟨_, rfl⟩ fl_12_110 ay_222 rfl rfl ?_
        refine ax_mv 1 95 [some (.ref 222), some (ax_i x1), some (ax_i s0), y3] [ax_i x1, .ref 256, ax_i (V3 246 x1), .ref 256] rfl ?_
        obtain ⟨o20, h⟩ := h
        refine ax_bld (n := 701) (pc' := 96) ⟨_, rfl⟩ ay_256 (by decide) o20 rfl ?_
        obtain ⟨o21, o22, h⟩ := h
        obtain ⟨V4, eV4⟩ : ∃ W9 : ax_V, W9 = ax_u V3 256 (V3 246 x1) (V3 256 x1) := ⟨_, rfl⟩
        have h := h V4 eV4
        have hg4 : ax_g V4 := eV4 ▸ ax_u_g hg3 (hg3 _ _)
        refine ax_bst (n := 701) (pc' := 97) ⟨_, rfl⟩ ay_ok ay_256 (by decide) o21 o22 eV4 rfl ?_
        exact h
set_option maxRecDepth 20000 in
theorem r_Model_findLater_97 {d : Nat} {V : ax_V} {Φ : ax_V → Prop} {Θ : ax_V → Prop} {x1 : Int} {y2 : Option Value} {y3 : Option Value} (hg : ax_g V) (hx1 : ax_rg x1) (hy2 : ax_y y2) (hy3 : ax_y y3) (h : (0 ≤ x1 ∧ x1 < 701) ∧ ((V 247 x1 = -1 → (0 ≤ x1 ∧ x1 < 701) ∧ ((V 241 x1 = 22 → (0 ≤ x1 ∧ x1 < 701) ∧ k_Model_findLater_146 d x1 y2 (V 245 x1) V Φ Θ) ∧ (¬ V 241 x1 = 22 → k_Model_findLater_146 d x1 y2 (-1) V Φ Θ))) ∧ (¬ V 247 x1 = -1 → (0 ≤ x1 ∧ x1 < 701) ∧ (0 ≤ x1 ∧ x1 < 701) ∧ (0 ≤ V 247 x1 ∧ V 247 x1 < 701) ∧ (V 256 x1 = 0 ∨ V 256 x1 = 1) ∧ (∀ V1, V1 = ax_u V 256 (V 247 x1) (V 256 x1) → (0 ≤ x1 ∧ x1 < 701) ∧ ((V1 241 x1 = 22 → (0 ≤ x1 ∧ x1 < 701) ∧ k_Model_findLater_146 d x1 y2 (V1 245 x1) V1 Φ Θ) ∧ (¬ V1 241 x1 = 22 → k_Model_findLater_146 d x1 y2 (-1) V1 Φ Θ)))))) : k_Model_findLater_97 d x1 y2 y3 V Φ Θ := by
  refine ax_mv 1 98 [some (.ref 222), some (ax_i x1), y2, y3] [.ref 222] rfl ?_
  refine ax_gR (v := .ref 247) (pc' := 101) ⟨_, rfl⟩ fl_12_83 ay_222 rfl rfl ?_
  refine ax_mv 1 102 [some (.ref 222), some (ax_i x1), y2, y3] [ax_i x1, .ref 247] rfl ?_
  obtain ⟨o23, h⟩ := h
  refine ax_ild (n := 701) (pc' := 103) ⟨_, rfl⟩ ay_247 (by decide) o23 rfl ?_
  refine ax_mv 1 104 [some (.ref 222), some (ax_i x1), y2, y3] [ax_i (-1), ax_i (V 247 x1)] rfl ?_
  refine ax_if2 (p1 := 124) (p2 := 107) ⟨_, rfl⟩ (by decide) rfl (hg _ _) (by decide) (fun hc => ?_) (fun hc => ?_)
  · have h := h.1 hc
    refine ax_mv 1 125 [some (.ref 222), some (ax_i x1), y2, y3] [.ref 222] rfl ?_
    refine ax_gR (v := .ref 241) (pc' := 128) ⟨_, rfl⟩ fl_12_65 ay_222 rfl rfl ?_
    refine ax_mv 1 129 [some (.ref 222), some (ax_i x1), y2, y3] [ax_i x1, .ref 241] rfl ?_
    obtain ⟨o24, h⟩ := h
    refine ax_ild (n := 701) (pc' := 130) ⟨_, rfl⟩ ay_241 (by decide) o24 rfl ?_
    refine ax_bip (pc' := 132) ⟨_, rfl⟩ (by decide) rfl ?_
    refine ax_if2 (p1 := 144) (p2 := 135) ⟨_, rfl⟩ (by decide) rfl (hg _ _) (by decide) (fun hc => ?_) (fun hc => ?_)
    · have h := h.2 hc
      refine ax_mv 1 145 [some (.ref 222), some (ax_i x1), y2, y3] [ax_i (-1)] rfl ?_
      refine ax_sti (i := 0) (k := 3) (n := 1) (pc' := 146) (L' := [some (.ref 222), some (ax_i x1), y2, some (ax_i (-1))]) ⟨_, rfl⟩ rfl rfl (ax_kill_y (k := 2) rfl hy2) (Nat.le_of_ble_eq_true rfl) rfl rfl ?_
      exact h
    · have h := h.1 (Classical.not_not.mp hc)
      refine ax_mv 1 136 [some (.ref 222), some (ax_i x1), y2, y3] [.ref 222] rfl ?_
      refine ax_gR (v := .ref 245) (pc' := 139) ⟨_, rfl⟩ fl_12_77 ay_222 rfl rfl ?_
      refine ax_mv 1 140 [some (.ref 222), some (ax_i x1), y2, y3] [ax_i x1, .ref 245] rfl ?_
      obtain ⟨o25, h⟩ := h
      refine ax_ild (n := 701) (pc' := 141) ⟨_, rfl⟩ ay_245 (by decide) o25 rfl ?_
      refine ax_mv 1 145 [some (.ref 222), some (ax_i x1), y2, y3] [ax_i (V 245 x1)] rfl ?_
      refine ax_sti (i := 0) (k := 3) (n := 1) (pc' := 146) (L' := [some (.ref 222), some (ax_i x1), y2, some (ax_i (V 245 x1))]) ⟨_, rfl⟩ rfl rfl (ax_kill_y (k := 2) rfl hy2) (Nat.le_of_ble_eq_true rfl) rfl rfl ?_
      exact h
  · have h := h.2 hc
    refine ax_mv 1 108 [some (.ref 222), some (ax_i x1), y2, y3] [.ref 222] rfl ?_
    refine ax_gR (v := .ref 256) (pc' := 111) ⟨_, rfl⟩ fl_12_110 ay_222 rfl rfl ?_
    refine ax_mv 1 112 [some (.ref 222), some (ax_i x1), y2, y3] [.ref 222, .ref 256] rfl ?_
    refine ax_gR (v := .ref 247) (pc' := 115) ⟨_, rfl⟩ fl_12_83 ay_222 rfl rfl ?_
    refine ax_mv 1 116 [some (.ref 222), some (ax_i x1), y2, y3] [ax_i x1, .ref 247, .ref 256] rfl ?_
    obtain ⟨o26, h⟩ := h
    refine ax_ild (n := 701) (pc' := 117) ⟨_, rfl⟩ ay_247 (by decide) o26 rfl ?_
    refine ax_mv 1 118 [some (.ref 222), some (ax_i x1), y2, y3] [.ref 222, ax_i (V 247 x1), .ref 256] rfl ?_
    refine ax_gR (v := .ref 256) (pc' := 121) ⟨_, rfl⟩ fl_12_110 ay_222 rfl rfl ?_
    refine ax_mv 1 122 [some (.ref 222), some (ax_i x1), y2, y3] [ax_i x1, .ref 256, ax_i (V 247 x1), .ref 256] rfl ?_
    obtain ⟨o27, h⟩ := h
    refine ax_bld (n := 701) (pc' := 123) ⟨_, rfl⟩ ay_256 (by decide) o27 rfl ?_
    obtain ⟨o28, o29, h⟩ := h
    obtain ⟨V1, eV1⟩ : ∃ W9 : ax_V, W9 = ax_u V 256 (V 247 x1) (V 256 x1) := ⟨_, rfl⟩
    have h := h V1 eV1
    have hg1 : ax_g V1 := eV1 ▸ ax_u_g hg (hg _ _)
    refine ax_bst (n := 701) (pc' := 124) ⟨_, rfl⟩ ay_ok ay_256 (by decide) o28 o29 eV1 rfl ?_
    refine ax_mv 1 125 [some (.ref 222), some (ax_i x1), y2, y3] [.ref 222] rfl ?_
    refine ax_gR (v := .ref 241) (pc' := 128) ⟨_, rfl⟩ fl_12_65 ay_222 rfl rfl ?_
    refine ax_mv 1 129 [some (.ref 222), some (ax_i x1), y2, y3] [ax_i x1, .ref 241] rfl ?_
    obtain ⟨o30, h⟩ := h
    refine ax_ild (n := 701) (pc' := 130) ⟨_, rfl⟩ ay_241 (by decide) o30 rfl ?_
    refine ax_bip (pc' := 132) ⟨_, rfl⟩ (by decide) rfl ?_
    refine ax_if2 (p1 := 144) (p2 := 135) ⟨_, rfl⟩ (by decide) rfl (hg1 _ _) (by decide) (fun hc => ?_) (fun hc => ?_)
    · have h := h.2 hc
      refine ax_mv 1 145 [some (.ref 222), some (ax_i x1), y2, y3] [ax_i (-1)] rfl ?_
      refine ax_sti (i := 0) (k := 3) (n := 1) (pc' := 146) (L' := [some (.ref 222), some (ax_i x1), y2, some (ax_i (-1))]) ⟨_, rfl⟩ rfl rfl (ax_kill_y (k := 2) rfl hy2) (Nat.le_of_ble_eq_true rfl) rfl rfl ?_
      exact h
    · have h := h.1 (Classical.not_not.mp hc)
      refine ax_mv 1 136 [some (.ref 222), some (ax_i x1), y2, y3] [.ref 222] rfl ?_
      refine ax_gR (v := .ref 245) (pc' := 139) ⟨_, rfl⟩ fl_12_77 ay_222 rfl rfl ?_
      refine ax_mv 1 140 [some (.ref 222), some (ax_i x1), y2, y3] [ax_i x1, .ref 245] rfl ?_
      obtain ⟨o31, h⟩ := h
      refine ax_ild (n := 701) (pc' := 141) ⟨_, rfl⟩ ay_245 (by decide) o31 rfl ?_
      refine ax_mv 1 145 [some (.ref 222), some (ax_i x1), y2, y3] [ax_i (V1 245 x1)] rfl ?_
      refine ax_sti (i := 0) (k := 3) (n := 1) (pc' := 146) (L' := [some (.ref 222), some (ax_i x1), y2, some (ax_i (V1 245 x1))]) ⟨_, rfl⟩ rfl rfl (ax_kill_y (k := 2) rfl hy2) (Nat.le_of_ble_eq_true rfl) rfl rfl ?_
      exact h
set_option maxRecDepth 20000 in
theorem r_Model_findLater_146 {d : Nat} {V : ax_V} {Φ : ax_V → Prop} {Θ : ax_V → Prop} {x1 : Int} {y2 : Option Value} {x3 : Int} (hg : ax_g V) (hx1 : ax_rg x1) (hy2 : ax_y y2) (hx3 : ax_rg x3) (h : ((x3 = -1 → k_Model_findLater_7 d (x1 + (-1)) y2 (some (ax_i x3)) V Φ Θ) ∧ (¬ x3 = -1 → (0 ≤ x1 ∧ x1 < 701) ∧ (0 ≤ x3 ∧ x3 < 701) ∧ (V 256 x1 = 0 ∨ V 256 x1 = 1) ∧ (∀ V1, V1 = ax_u V 256 x3 (V 256 x1) → (0 ≤ x3 ∧ x3 < 701) ∧ k_Model_findLater_146 d x1 y2 (V1 252 x3) V1 Φ Θ)))) : k_Model_findLater_146 d x1 y2 x3 V Φ Θ := by
  refine ax_mv 2 148 [some (.ref 222), some (ax_i x1), y2, some (ax_i x3)] [ax_i (-1), ax_i x3] rfl ?_
  refine ax_if2 (p1 := 173) (p2 := 151) ⟨_, rfl⟩ (by decide) rfl hx3 (by decide) (fun hc => ?_) (fun hc => ?_)
  · have h := h.1 hc
    refine ax_inc (x := x1) (pc' := 176) (L' := [some (.ref 222), some (ax_i (x1 + (-1))), y2, some (ax_i x3)]) ⟨_, rfl⟩ rfl rfl rfl rfl ?_
    refine ax_mv 1 7 [some (.ref 222), some (ax_i (x1 + (-1))), y2, some (ax_i x3)] [] rfl ?_
    exact h
  · have h := h.2 hc
    refine ax_mv 1 152 [some (.ref 222), some (ax_i x1), y2, some (ax_i x3)] [.ref 222] rfl ?_
    refine ax_gR (v := .ref 256) (pc' := 155) ⟨_, rfl⟩ fl_12_110 ay_222 rfl rfl ?_
    refine ax_mv 2 157 [some (.ref 222), some (ax_i x1), y2, some (ax_i x3)] [.ref 222, ax_i x3, .ref 256] rfl ?_
    refine ax_gR (v := .ref 256) (pc' := 160) ⟨_, rfl⟩ fl_12_110 ay_222 rfl rfl ?_
    refine ax_mv 1 161 [some (.ref 222), some (ax_i x1), y2, some (ax_i x3)] [ax_i x1, .ref 256, ax_i x3, .ref 256] rfl ?_
    obtain ⟨o32, h⟩ := h
    refine ax_bld (n := 701) (pc' := 162) ⟨_, rfl⟩ ay_256 (by decide) o32 rfl ?_
    obtain ⟨o33, o34, h⟩ := h
    obtain ⟨V1, eV1⟩ : ∃ W9 : ax_V, W9 = ax_u V 256 x3 (V 256 x1) := ⟨_, rfl⟩
    have h := h V1 eV1
    have hg1 : ax_g V1 := eV1 ▸ ax_u_g hg (hg _ _)
    refine ax_bst (n := 701) (pc' := 163) ⟨_, rfl⟩ ay_ok ay_256 (by decide) o33 o34 eV1 rfl ?_
    refine ax_mv 1 164 [some (.ref 222), some (ax_i x1), y2, some (ax_i x3)] [.ref 222] rfl ?_
    refine ax_gR (v := .ref 252) (pc' := 167) ⟨_, rfl⟩ fl_12_98 ay_222 rfl rfl ?_
    refine ax_mv 1 168 [some (.ref 222), some (ax_i x1), y2, some (ax_i x3)] [ax_i x3, .ref 252] rfl ?_
    obtain ⟨o35, h⟩ := h
    refine ax_ild (n := 701) (pc' := 169) ⟨_, rfl⟩ ay_252 (by decide) o35 rfl ?_
    refine ax_sti (i := 0) (k := 3) (n := 1) (pc' := 170) (L' := [some (.ref 222), some (ax_i x1), y2, some (ax_i (V1 252 x3))]) ⟨_, rfl⟩ rfl rfl (ax_kill_y (k := 2) rfl hy2) (Nat.le_of_ble_eq_true rfl) rfl rfl ?_
    refine ax_mv 1 146 [some (.ref 222), some (ax_i x1), y2, some (ax_i (V1 252 x3))] [] rfl ?_
    exact h
set_option maxRecDepth 20000 in
theorem r_Model_findLater {d : Nat} {V : ax_V} {Φ : ax_V → Prop} {Θ : ax_V → Prop} (hg : ax_g V) (h : k_Model_findLater_7 d ((V 222 26) - 1) none none V Φ Θ) : ax_N ay_lay (d + 1) q_Model_findLater [.ref 222] V Φ Θ := by
  refine ax_T.of (M := m_Model_findLater) rfl (Nat.le_of_ble_eq_true rfl) ?_
  refine ax_mv 0 0 [some (.ref 222), none, none, none] [] rfl ?_
  refine ax_mv 1 1 [some (.ref 222), none, none, none] [.ref 222] rfl ?_
  refine ax_gI (kI := 26) (pc' := 4) ⟨_, rfl⟩ fl_12_317 ay_222 rfl rfl rfl ?_
  refine ax_mv 1 5 [some (.ref 222), none, none, none] [ax_i 1, ax_i (V 222 26)] rfl ?_
  refine ax_sub (pc' := 6) ⟨_, rfl⟩ rfl ?_
  refine ax_sti (i := 0) (k := 1) (n := 1) (pc' := 7) (L' := [some (.ref 222), some (ax_i ((V 222 26) - 1)), none, none]) ⟨_, rfl⟩ rfl rfl rfl (Nat.le_of_ble_eq_true rfl) rfl rfl ?_
  exact h
abbrev k_Model_checkCycles_12 (d : Nat) (x1 : Int) (x2 : Int) (y3 : Option Value) (y4 : Option Value) (V : ax_V) (Φ : ax_V → Prop) (Θ : ax_V → Prop) : Prop := ax_R ay_lay ax_t d m_Model_checkCycles 12 [some (.ref 222), some (ax_i x1), some (ax_i x2), y3, y4] [] V (ax_Nr Φ) Θ
abbrev k_Model_checkCycles_20 (d : Nat) (x1 : Int) (x2 : Int) (x3 : Int) (y4 : Option Value) (V : ax_V) (Φ : ax_V → Prop) (Θ : ax_V → Prop) : Prop := ax_R ay_lay ax_t d m_Model_checkCycles 20 [some (.ref 222), some (ax_i x1), some (ax_i x2), some (ax_i x3), y4] [] V (ax_Nr Φ) Θ
abbrev k_Model_checkCycles_29 (d : Nat) (x1 : Int) (x2 : Int) (x3 : Int) (x4 : Int) (V : ax_V) (Φ : ax_V → Prop) (Θ : ax_V → Prop) : Prop := ax_R ay_lay ax_t d m_Model_checkCycles 29 [some (.ref 222), some (ax_i x1), some (ax_i x2), some (ax_i x3), some (ax_i x4)] [] V (ax_Nr Φ) Θ
abbrev k_Model_checkCycles_98 (d : Nat) (x1 : Int) (x2 : Int) (y3 : Option Value) (y4 : Option Value) (V : ax_V) (Φ : ax_V → Prop) (Θ : ax_V → Prop) : Prop := ax_R ay_lay ax_t d m_Model_checkCycles 98 [some (.ref 222), some (ax_i x1), some (ax_i x2), y3, y4] [] V (ax_Nr Φ) Θ
set_option maxRecDepth 20000 in
theorem r_Model_checkCycles_12 {d : Nat} {V : ax_V} {Φ : ax_V → Prop} {Θ : ax_V → Prop} {x1 : Int} {x2 : Int} {y3 : Option Value} {y4 : Option Value} (hg : ax_g V) (hx1 : ax_rg x1) (hx2 : ax_rg x2) (hy3 : ax_y y3) (hy4 : ax_y y4) (h : ((26 ≤ x2 → k_Model_checkCycles_98 d x1 0 y3 y4 V Φ Θ) ∧ (x2 < 26 → k_Model_checkCycles_20 d x1 x2 0 y4 V Φ Θ))) : k_Model_checkCycles_12 d x1 x2 y3 y4 V Φ Θ := by
  refine ax_mv 1 13 [some (.ref 222), some (ax_i x1), some (ax_i x2), y3, y4] [ax_i x2] rfl ?_
  refine ax_bip (pc' := 15) ⟨_, rfl⟩ (by decide) rfl ?_
  refine ax_if2 (p1 := 96) (p2 := 18) ⟨_, rfl⟩ (by decide) rfl hx2 (by decide) (fun hc => ?_) (fun hc => ?_)
  · have h := h.1 hc
    refine ax_mv 1 97 [some (.ref 222), some (ax_i x1), some (ax_i x2), y3, y4] [ax_i 0] rfl ?_
    refine ax_sti (i := 0) (k := 2) (n := 1) (pc' := 98) (L' := [some (.ref 222), some (ax_i x1), some (ax_i 0), y3, y4]) ⟨_, rfl⟩ rfl rfl rfl (Nat.le_of_ble_eq_true rfl) rfl rfl ?_
    exact h
  · have h := h.2 (Int.not_le.mp hc)
    refine ax_mv 1 19 [some (.ref 222), some (ax_i x1), some (ax_i x2), y3, y4] [ax_i 0] rfl ?_
    refine ax_sti (i := 0) (k := 3) (n := 1) (pc' := 20) (L' := [some (.ref 222), some (ax_i x1), some (ax_i x2), some (ax_i 0), y4]) ⟨_, rfl⟩ rfl rfl rfl (Nat.le_of_ble_eq_true rfl) rfl rfl ?_
    exact h
set_option maxRecDepth 20000 in
theorem r_Model_checkCycles_20 {d : Nat} {V : ax_V} {Φ : ax_V → Prop} {Θ : ax_V → Prop} {x1 : Int} {x2 : Int} {x3 : Int} {y4 : Option Value} (hg : ax_g V) (hx1 : ax_rg x1) (hx2 : ax_rg x2) (hx3 : ax_rg x3) (hy4 : ax_y y4) (h : ((26 ≤ x3 → k_Model_checkCycles_12 d x1 (x2 + 1) (some (ax_i x3)) y4 V Φ Θ) ∧ (x3 < 26 → k_Model_checkCycles_29 d x1 x2 x3 0 V Φ Θ))) : k_Model_checkCycles_20 d x1 x2 x3 y4 V Φ Θ := by
  refine ax_mv 1 21 [some (.ref 222), some (ax_i x1), some (ax_i x2), some (ax_i x3), y4] [ax_i x3] rfl ?_
  refine ax_bip (pc' := 23) ⟨_, rfl⟩ (by decide) rfl ?_
  refine ax_if2 (p1 := 90) (p2 := 26) ⟨_, rfl⟩ (by decide) rfl hx3 (by decide) (fun hc => ?_) (fun hc => ?_)
  · have h := h.1 hc
    refine ax_inc (x := x2) (pc' := 93) (L' := [some (.ref 222), some (ax_i x1), some (ax_i (x2 + 1)), some (ax_i x3), y4]) ⟨_, rfl⟩ rfl rfl rfl rfl ?_
    refine ax_mv 1 12 [some (.ref 222), some (ax_i x1), some (ax_i (x2 + 1)), some (ax_i x3), y4] [] rfl ?_
    exact h
  · have h := h.2 (Int.not_le.mp hc)
    refine ax_mv 1 27 [some (.ref 222), some (ax_i x1), some (ax_i x2), some (ax_i x3), y4] [ax_i 0] rfl ?_
    refine ax_sti (i := 0) (k := 4) (n := 2) (pc' := 29) (L' := [some (.ref 222), some (ax_i x1), some (ax_i x2), some (ax_i x3), some (ax_i 0)]) ⟨_, rfl⟩ rfl rfl rfl (Nat.le_of_ble_eq_true rfl) rfl rfl ?_
    exact h
set_option maxRecDepth 20000 in
theorem r_Model_checkCycles_29 {d : Nat} {V : ax_V} {Φ : ax_V → Prop} {Θ : ax_V → Prop} {x1 : Int} {x2 : Int} {x3 : Int} {x4 : Int} (hg : ax_g V) (hx1 : ax_rg x1) (hx2 : ax_rg x2) (hx3 : ax_rg x3) (hx4 : ax_rg x4) (h : ((26 ≤ x4 → k_Model_checkCycles_20 d x1 x2 (x3 + 1) (some (ax_i x4)) V Φ Θ) ∧ (x4 < 26 → (0 ≤ (26 * x3) + x2 ∧ (26 * x3) + x2 < 676) ∧ ((V 283 ((26 * x3) + x2) = 0 → k_Model_checkCycles_29 d x1 x2 x3 (x4 + 1) V Φ Θ) ∧ (¬ V 283 ((26 * x3) + x2) = 0 → (0 ≤ (26 * x2) + x4 ∧ (26 * x2) + x4 < 676) ∧ ((V 283 ((26 * x2) + x4) = 0 → k_Model_checkCycles_29 d x1 x2 x3 (x4 + 1) V Φ Θ) ∧ (¬ V 283 ((26 * x2) + x4) = 0 → (0 ≤ (26 * x3) + x4 ∧ (26 * x3) + x4 < 676) ∧ (∀ V1, V1 = ax_u V 283 ((26 * x3) + x4) 1 → k_Model_checkCycles_29 d x1 x2 x3 (x4 + 1) V1 Φ Θ)))))))) : k_Model_checkCycles_29 d x1 x2 x3 x4 V Φ Θ := by
  refine ax_mv 1 31 [some (.ref 222), some (ax_i x1), some (ax_i x2), some (ax_i x3), some (ax_i x4)] [ax_i x4] rfl ?_
  refine ax_bip (pc' := 33) ⟨_, rfl⟩ (by decide) rfl ?_
  refine ax_if2 (p1 := 84) (p2 := 36) ⟨_, rfl⟩ (by decide) rfl hx4 (by decide) (fun hc => ?_) (fun hc => ?_)
  · have h := h.1 hc
    refine ax_inc (x := x3) (pc' := 87) (L' := [some (.ref 222), some (ax_i x1), some (ax_i x2), some (ax_i (x3 + 1)), some (ax_i x4)]) ⟨_, rfl⟩ rfl rfl rfl rfl ?_
    refine ax_mv 1 20 [some (.ref 222), some (ax_i x1), some (ax_i x2), some (ax_i (x3 + 1)), some (ax_i x4)] [] rfl ?_
    exact h
  · have h := h.2 (Int.not_le.mp hc)
    refine ax_mv 1 37 [some (.ref 222), some (ax_i x1), some (ax_i x2), some (ax_i x3), some (ax_i x4)] [.ref 222] rfl ?_
    refine ax_gR (v := .ref 283) (pc' := 40) ⟨_, rfl⟩ fl_12_191 ay_222 rfl rfl ?_
    refine ax_bip (pc' := 42) ⟨_, rfl⟩ (by decide) rfl ?_
    refine ax_mv 1 43 [some (.ref 222), some (ax_i x1), some (ax_i x2), some (ax_i x3), some (ax_i x4)] [ax_i x3, ax_i 26, .ref 283] rfl ?_
    refine ax_mul (pc' := 44) ⟨_, rfl⟩ rfl ?_
    refine ax_mv 1 45 [some (.ref 222), some (ax_i x1), some (ax_i x2), some (ax_i x3), some (ax_i x4)] [ax_i x2, ax_i (26 * x3), .ref 283] rfl ?_
    refine ax_add (pc' := 46) ⟨_, rfl⟩ rfl ?_
    obtain ⟨o1, h⟩ := h
    refine ax_bld (n := 676) (pc' := 47) ⟨_, rfl⟩ ay_283 (by decide) o1 rfl ?_
    refine ax_if (p1 := 78) (p2 := 50) ⟨_, rfl⟩ (by decide) rfl (hg _ _) (fun hc => ?_) (fun hc => ?_)
    · have h := h.1 hc
      refine ax_inc (x := x4) (pc' := 81) (L' := [some (.ref 222), some (ax_i x1), some (ax_i x2), some (ax_i x3), some (ax_i (x4 + 1))]) ⟨_, rfl⟩ rfl rfl rfl rfl ?_
      refine ax_mv 1 29 [some (.ref 222), some (ax_i x1), some (ax_i x2), some (ax_i x3), some (ax_i (x4 + 1))] [] rfl ?_
      exact h
    · have h := h.2 hc
      refine ax_mv 1 51 [some (.ref 222), some (ax_i x1), some (ax_i x2), some (ax_i x3), some (ax_i x4)] [.ref 222] rfl ?_
      refine ax_gR (v := .ref 283) (pc' := 54) ⟨_, rfl⟩ fl_12_191 ay_222 rfl rfl ?_
      refine ax_bip (pc' := 56) ⟨_, rfl⟩ (by decide) rfl ?_
      refine ax_mv 1 57 [some (.ref 222), some (ax_i x1), some (ax_i x2), some (ax_i x3), some (ax_i x4)] [ax_i x2, ax_i 26, .ref 283] rfl ?_
      refine ax_mul (pc' := 58) ⟨_, rfl⟩ rfl ?_
      refine ax_mv 1 60 [some (.ref 222), some (ax_i x1), some (ax_i x2), some (ax_i x3), some (ax_i x4)] [ax_i x4, ax_i (26 * x2), .ref 283] rfl ?_
      refine ax_add (pc' := 61) ⟨_, rfl⟩ rfl ?_
      obtain ⟨o2, h⟩ := h
      refine ax_bld (n := 676) (pc' := 62) ⟨_, rfl⟩ ay_283 (by decide) o2 rfl ?_
      refine ax_if (p1 := 78) (p2 := 65) ⟨_, rfl⟩ (by decide) rfl (hg _ _) (fun hc => ?_) (fun hc => ?_)
      · have h := h.1 hc
        refine ax_inc (x := x4) (pc' := 81) (L' := [some (.ref 222), some (ax_i x1), some (ax_i x2), some (ax_i x3), some (ax_i (x4 + 1))]) ⟨_, rfl⟩ rfl rfl rfl rfl ?_
        refine ax_mv 1 29 [some (.ref 222), some (ax_i x1), some (ax_i x2), some (ax_i x3), some (ax_i (x4 + 1))] [] rfl ?_
        exact h
      · have h := h.2 hc
        refine ax_mv 1 66 [some (.ref 222), some (ax_i x1), some (ax_i x2), some (ax_i x3), some (ax_i x4)] [.ref 222] rfl ?_
        refine ax_gR (v := .ref 283) (pc' := 69) ⟨_, rfl⟩ fl_12_191 ay_222 rfl rfl ?_
        refine ax_bip (pc' := 71) ⟨_, rfl⟩ (by decide) rfl ?_
        refine ax_mv 1 72 [some (.ref 222), some (ax_i x1), some (ax_i x2), some (ax_i x3), some (ax_i x4)] [ax_i x3, ax_i 26, .ref 283] rfl ?_
        refine ax_mul (pc' := 73) ⟨_, rfl⟩ rfl ?_
        refine ax_mv 1 75 [some (.ref 222), some (ax_i x1), some (ax_i x2), some (ax_i x3), some (ax_i x4)] [ax_i x4, ax_i (26 * x3), .ref 283] rfl ?_
        refine ax_add (pc' := 76) ⟨_, rfl⟩ rfl ?_
        refine ax_mv 1 77 [some (.ref 222), some (ax_i x1), some (ax_i x2), some (ax_i x3), some (ax_i x4)] [ax_i 1, ax_i ((26 * x3) + x4), .ref 283] rfl ?_
        obtain ⟨o3, h⟩ := h
        obtain ⟨V1, eV1⟩ : ∃ W9 : ax_V, W9 = ax_u V 283 ((26 * x3) + x4) 1 := ⟨_, rfl⟩
        have h := h V1 eV1
        have hg1 : ax_g V1 := eV1 ▸ ax_u_g hg (by decide)
        refine ax_bst (n := 676) (pc' := 78) ⟨_, rfl⟩ ay_ok ay_283 (by decide) o3 (by decide) eV1 rfl ?_
        refine ax_inc (x := x4) (pc' := 81) (L' := [some (.ref 222), some (ax_i x1), some (ax_i x2), some (ax_i x3), some (ax_i (x4 + 1))]) ⟨_, rfl⟩ rfl rfl rfl rfl ?_
        refine ax_mv 1 29 [some (.ref 222), some (ax_i x1), some (ax_i x2), some (ax_i x3), some (ax_i (x4 + 1))] [] rfl ?_
        exact h
set_option maxRecDepth 20000 in
theorem r_Model_checkCycles_98 {d : Nat} {V : ax_V} {Φ : ax_V → Prop} {Θ : ax_V → Prop} {x1 : Int} {x2 : Int} {y3 : Option Value} {y4 : Option Value} (hg : ax_g V) (hx1 : ax_rg x1) (hx2 : ax_rg x2) (hy3 : ax_y y3) (hy4 : ax_y y4) (h : ((26 ≤ x2 → Φ V) ∧ (x2 < 26 → (0 ≤ (26 * x2) + x2 ∧ (26 * x2) + x2 < 676) ∧ ((V 283 ((26 * x2) + x2) = 0 → k_Model_checkCycles_98 d x1 (x2 + 1) y3 y4 V Φ Θ) ∧ (¬ V 283 ((26 * x2) + x2) = 0 → (0 ≤ (26 * x1) + x2 ∧ (26 * x1) + x2 < 240) ∧ ax_N ay_lay d q_Model_note [.ref 222, ax_i (V 234 ((26 * x1) + x2))] V (fun V1 => k_Model_checkCycles_98 d x1 (x2 + 1) y3 y4 V1 Φ Θ) Θ))))) : k_Model_checkCycles_98 d x1 x2 y3 y4 V Φ Θ := by
  refine ax_mv 1 99 [some (.ref 222), some (ax_i x1), some (ax_i x2), y3, y4] [ax_i x2] rfl ?_
  refine ax_bip (pc' := 101) ⟨_, rfl⟩ (by decide) rfl ?_
  refine ax_if2 (p1 := 139) (p2 := 104) ⟨_, rfl⟩ (by decide) rfl hx2 (by decide) (fun hc => ?_) (fun hc => ?_)
  · have h := h.1 hc
    exact ax_nret ⟨_, rfl⟩ rfl hg h
  · have h := h.2 (Int.not_le.mp hc)
    refine ax_mv 1 105 [some (.ref 222), some (ax_i x1), some (ax_i x2), y3, y4] [.ref 222] rfl ?_
    refine ax_gR (v := .ref 283) (pc' := 108) ⟨_, rfl⟩ fl_12_191 ay_222 rfl rfl ?_
    refine ax_bip (pc' := 110) ⟨_, rfl⟩ (by decide) rfl ?_
    refine ax_mv 1 111 [some (.ref 222), some (ax_i x1), some (ax_i x2), y3, y4] [ax_i x2, ax_i 26, .ref 283] rfl ?_
    refine ax_mul (pc' := 112) ⟨_, rfl⟩ rfl ?_
    refine ax_mv 1 113 [some (.ref 222), some (ax_i x1), some (ax_i x2), y3, y4] [ax_i x2, ax_i (26 * x2), .ref 283] rfl ?_
    refine ax_add (pc' := 114) ⟨_, rfl⟩ rfl ?_
    obtain ⟨o4, h⟩ := h
    refine ax_bld (n := 676) (pc' := 115) ⟨_, rfl⟩ ay_283 (by decide) o4 rfl ?_
    refine ax_if (p1 := 133) (p2 := 118) ⟨_, rfl⟩ (by decide) rfl (hg _ _) (fun hc => ?_) (fun hc => ?_)
    · have h := h.1 hc
      refine ax_inc (x := x2) (pc' := 136) (L' := [some (.ref 222), some (ax_i x1), some (ax_i (x2 + 1)), y3, y4]) ⟨_, rfl⟩ rfl rfl rfl rfl ?_
      refine ax_mv 1 98 [some (.ref 222), some (ax_i x1), some (ax_i (x2 + 1)), y3, y4] [] rfl ?_
      exact h
    · have h := h.2 hc
      refine ax_mv 2 120 [some (.ref 222), some (ax_i x1), some (ax_i x2), y3, y4] [.ref 222, .ref 222] rfl ?_
      refine ax_gR (v := .ref 234) (pc' := 123) ⟨_, rfl⟩ fl_12_43 ay_222 rfl rfl ?_
      refine ax_bip (pc' := 125) ⟨_, rfl⟩ (by decide) rfl ?_
      refine ax_mv 1 126 [some (.ref 222), some (ax_i x1), some (ax_i x2), y3, y4] [ax_i x1, ax_i 26, .ref 234, .ref 222] rfl ?_
      refine ax_mul (pc' := 127) ⟨_, rfl⟩ rfl ?_
      refine ax_mv 1 128 [some (.ref 222), some (ax_i x1), some (ax_i x2), y3, y4] [ax_i x2, ax_i (26 * x1), .ref 234, .ref 222] rfl ?_
      refine ax_add (pc' := 129) ⟨_, rfl⟩ rfl ?_
      obtain ⟨o5, h⟩ := h
      refine ax_ild (n := 240) (pc' := 130) ⟨_, rfl⟩ ay_234 (by decide) o5 rfl ?_
      refine ax_callN (pc' := 133) ⟨_, rfl⟩ ml_12_433 (rest := []) rfl (fun ss hs => ⟨_, _, ay_222 ss hs⟩) (Nat.le_of_ble_eq_true rfl) rfl rfl h (fun V1 hg1 h => ?_)
      refine ax_inc (x := x2) (pc' := 136) (L' := [some (.ref 222), some (ax_i x1), some (ax_i (x2 + 1)), y3, y4]) ⟨_, rfl⟩ rfl rfl rfl rfl ?_
      refine ax_mv 1 98 [some (.ref 222), some (ax_i x1), some (ax_i (x2 + 1)), y3, y4] [] rfl ?_
      exact h
set_option maxRecDepth 20000 in
theorem r_Model_checkCycles {d : Nat} {V : ax_V} {Φ : ax_V → Prop} {Θ : ax_V → Prop} {x1 : Int} (hg : ax_g V) (hx1 : ax_rg x1) (h : ax_N ay_lay d q_Model_findHangs [.ref 222, ax_i x1] V (fun V1 => ax_N ay_lay d q_Model_findOrder [.ref 222, ax_i x1] V1 (fun V2 => k_Model_checkCycles_12 d x1 0 none none V2 Φ Θ) Θ) Θ) : ax_N ay_lay (d + 1) q_Model_checkCycles [.ref 222, ax_i x1] V Φ Θ := by
  refine ax_T.of (M := m_Model_checkCycles) rfl (Nat.le_of_ble_eq_true rfl) ?_
  refine ax_mv 0 0 [some (.ref 222), some (ax_i x1), none, none, none] [] rfl ?_
  refine ax_mv 2 2 [some (.ref 222), some (ax_i x1), none, none, none] [ax_i x1, .ref 222] rfl ?_
  refine ax_callN (pc' := 5) ⟨_, rfl⟩ ml_12_522 (rest := []) rfl (fun ss hs => ⟨_, _, ay_222 ss hs⟩) (Nat.le_of_ble_eq_true rfl) rfl rfl h (fun V1 hg1 h => ?_)
  refine ax_mv 2 7 [some (.ref 222), some (ax_i x1), none, none, none] [ax_i x1, .ref 222] rfl ?_
  refine ax_callN (pc' := 10) ⟨_, rfl⟩ ml_12_525 (rest := []) rfl (fun ss hs => ⟨_, _, ay_222 ss hs⟩) (Nat.le_of_ble_eq_true rfl) rfl rfl h (fun V2 hg2 h => ?_)
  refine ax_mv 1 11 [some (.ref 222), some (ax_i x1), none, none, none] [ax_i 0] rfl ?_
  refine ax_sti (i := 0) (k := 2) (n := 1) (pc' := 12) (L' := [some (.ref 222), some (ax_i x1), some (ax_i 0), none, none]) ⟨_, rfl⟩ rfl rfl rfl (Nat.le_of_ble_eq_true rfl) rfl rfl ?_
  exact h
abbrev k_Model_findHangs_2 (d : Nat) (x1 : Int) (x2 : Int) (y3 : Option Value) (y4 : Option Value) (V : ax_V) (Φ : ax_V → Prop) (Θ : ax_V → Prop) : Prop := ax_R ay_lay ax_t d m_Model_findHangs 2 [some (.ref 222), some (ax_i x1), some (ax_i x2), y3, y4] [] V (ax_Nr Φ) Θ
abbrev k_Model_findHangs_24 (d : Nat) (x1 : Int) (x2 : Int) (y3 : Option Value) (y4 : Option Value) (V : ax_V) (Φ : ax_V → Prop) (Θ : ax_V → Prop) : Prop := ax_R ay_lay ax_t d m_Model_findHangs 24 [some (.ref 222), some (ax_i x1), some (ax_i x2), y3, y4] [] V (ax_Nr Φ) Θ
abbrev k_Model_findHangs_82 (d : Nat) (x1 : Int) (x2 : Int) (x3 : Int) (x4 : Int) (V : ax_V) (Φ : ax_V → Prop) (Θ : ax_V → Prop) : Prop := ax_R ay_lay ax_t d m_Model_findHangs 82 [some (.ref 222), some (ax_i x1), some (ax_i x2), some (ax_i x3), some (ax_i x4)] [] V (ax_Nr Φ) Θ
abbrev k_Model_findHangs_140 (d : Nat) (x1 : Int) (x2 : Int) (x3 : Int) (x4 : Int) (V : ax_V) (Φ : ax_V → Prop) (Θ : ax_V → Prop) : Prop := ax_R ay_lay ax_t d m_Model_findHangs 140 [some (.ref 222), some (ax_i x1), some (ax_i x2), some (ax_i x3), some (ax_i x4)] [] V (ax_Nr Φ) Θ
set_option maxRecDepth 20000 in
theorem r_Model_findHangs_2 {d : Nat} {V : ax_V} {Φ : ax_V → Prop} {Θ : ax_V → Prop} {x1 : Int} {x2 : Int} {y3 : Option Value} {y4 : Option Value} (hg : ax_g V) (hx1 : ax_rg x1) (hx2 : ax_rg x2) (hy3 : ax_y y3) (hy4 : ax_y y4) (h : ((676 ≤ x2 → k_Model_findHangs_24 d x1 0 y3 y4 V Φ Θ) ∧ (x2 < 676 → (0 ≤ x2 ∧ x2 < 676) ∧ (∀ V1, V1 = ax_u V 283 x2 0 → k_Model_findHangs_2 d x1 (x2 + 1) y3 y4 V1 Φ Θ)))) : k_Model_findHangs_2 d x1 x2 y3 y4 V Φ Θ := by
  refine ax_mv 1 3 [some (.ref 222), some (ax_i x1), some (ax_i x2), y3, y4] [ax_i x2] rfl ?_
  refine ax_sip (pc' := 6) ⟨_, rfl⟩ (by decide) rfl ?_
  refine ax_if2 (p1 := 22) (p2 := 9) ⟨_, rfl⟩ (by decide) rfl hx2 (by decide) (fun hc => ?_) (fun hc => ?_)
  · have h := h.1 hc
    refine ax_mv 1 23 [some (.ref 222), some (ax_i x1), some (ax_i x2), y3, y4] [ax_i 0] rfl ?_
    refine ax_sti (i := 0) (k := 2) (n := 1) (pc' := 24) (L' := [some (.ref 222), some (ax_i x1), some (ax_i 0), y3, y4]) ⟨_, rfl⟩ rfl rfl rfl (Nat.le_of_ble_eq_true rfl) rfl rfl ?_
    exact h
  · have h := h.2 (Int.not_le.mp hc)
    refine ax_mv 1 10 [some (.ref 222), some (ax_i x1), some (ax_i x2), y3, y4] [.ref 222] rfl ?_
    refine ax_gR (v := .ref 283) (pc' := 13) ⟨_, rfl⟩ fl_12_191 ay_222 rfl rfl ?_
    refine ax_mv 2 15 [some (.ref 222), some (ax_i x1), some (ax_i x2), y3, y4] [ax_i 0, ax_i x2, .ref 283] rfl ?_
    obtain ⟨o1, h⟩ := h
    obtain ⟨V1, eV1⟩ : ∃ W9 : ax_V, W9 = ax_u V 283 x2 0 := ⟨_, rfl⟩
    have h := h V1 eV1
    have hg1 : ax_g V1 := eV1 ▸ ax_u_g hg (by decide)
    refine ax_bst (n := 676) (pc' := 16) ⟨_, rfl⟩ ay_ok ay_283 (by decide) o1 (by decide) eV1 rfl ?_
    refine ax_inc (x := x2) (pc' := 19) (L' := [some (.ref 222), some (ax_i x1), some (ax_i (x2 + 1)), y3, y4]) ⟨_, rfl⟩ rfl rfl rfl rfl ?_
    refine ax_mv 1 2 [some (.ref 222), some (ax_i x1), some (ax_i (x2 + 1)), y3, y4] [] rfl ?_
    exact h
set_option maxRecDepth 20000 in
theorem r_Model_findHangs_24 {d : Nat} {V : ax_V} {Φ : ax_V → Prop} {Θ : ax_V → Prop} {x1 : Int} {x2 : Int} {y3 : Option Value} {y4 : Option Value} (hg : ax_g V) (hx1 : ax_rg x1) (hx2 : ax_rg x2) (hy3 : ax_y y3) (hy4 : ax_y y4) (h : ((26 ≤ x2 → Φ V) ∧ (x2 < 26 → (0 ≤ (26 * x1) + x2 ∧ (26 * x1) + x2 < 240) ∧ ((V 232 ((26 * x1) + x2) = 0 → k_Model_findHangs_24 d x1 (x2 + 1) (some (ax_i ((26 * x1) + x2))) y4 V Φ Θ) ∧ (¬ V 232 ((26 * x1) + x2) = 0 → (0 ≤ (26 * x1) + x2 ∧ (26 * x1) + x2 < 240) ∧ ((V 235 ((26 * x1) + x2) = 0 → k_Model_findHangs_82 d x1 x2 ((26 * x1) + x2) 0 V Φ Θ) ∧ (¬ V 235 ((26 * x1) + x2) = 0 → (0 ≤ (26 * x1) + x2 ∧ (26 * x1) + x2 < 240) ∧ (0 ≤ (26 * x2) + (ax_div ((V 235 ((26 * x1) + x2)) - 1) 2) ∧ (26 * x2) + (ax_div ((V 235 ((26 * x1) + x2)) - 1) 2) < 676) ∧ (∀ V1, V1 = ax_u V 283 ((26 * x2) + (ax_div ((V 235 ((26 * x1) + x2)) - 1) 2)) 1 → k_Model_findHangs_82 d x1 x2 ((26 * x1) + x2) 0 V1 Φ Θ)))))))) : k_Model_findHangs_24 d x1 x2 y3 y4 V Φ Θ := by
  refine ax_mv 1 25 [some (.ref 222), some (ax_i x1), some (ax_i x2), y3, y4] [ax_i x2] rfl ?_
  refine ax_bip (pc' := 27) ⟨_, rfl⟩ (by decide) rfl ?_
  refine ax_if2 (p1 := 216) (p2 := 30) ⟨_, rfl⟩ (by decide) rfl hx2 (by decide) (fun hc => ?_) (fun hc => ?_)
  · have h := h.1 hc
    exact ax_nret ⟨_, rfl⟩ rfl hg h
  · have h := h.2 (Int.not_le.mp hc)
    refine ax_bip (pc' := 32) ⟨_, rfl⟩ (by decide) rfl ?_
    refine ax_mv 1 33 [some (.ref 222), some (ax_i x1), some (ax_i x2), y3, y4] [ax_i x1, ax_i 26] rfl ?_
    refine ax_mul (pc' := 34) ⟨_, rfl⟩ rfl ?_
    refine ax_mv 1 35 [some (.ref 222), some (ax_i x1), some (ax_i x2), y3, y4] [ax_i x2, ax_i (26 * x1)] rfl ?_
    refine ax_add (pc' := 36) ⟨_, rfl⟩ rfl ?_
    refine ax_sti (i := 0) (k := 3) (n := 1) (pc' := 37) (L' := [some (.ref 222), some (ax_i x1), some (ax_i x2), some (ax_i ((26 * x1) + x2)), y4]) ⟨_, rfl⟩ rfl rfl rfl (Nat.le_of_ble_eq_true rfl) rfl rfl ?_
    refine ax_mv 1 38 [some (.ref 222), some (ax_i x1), some (ax_i x2), some (ax_i ((26 * x1) + x2)), y4] [.ref 222] rfl ?_
    refine ax_gR (v := .ref 232) (pc' := 41) ⟨_, rfl⟩ fl_12_37 ay_222 rfl rfl ?_
    refine ax_mv 1 42 [some (.ref 222), some (ax_i x1), some (ax_i x2), some (ax_i ((26 * x1) + x2)), y4] [ax_i ((26 * x1) + x2), .ref 232] rfl ?_
    obtain ⟨o2, h⟩ := h
    refine ax_ild (n := 240) (pc' := 43) ⟨_, rfl⟩ ay_232 (by decide) o2 rfl ?_
    refine ax_if (p1 := 49) (p2 := 46) ⟨_, rfl⟩ (by decide) rfl (hg _ _) (fun hc => ?_) (fun hc => ?_)
    · have h := h.2 hc
      refine ax_mv 1 50 [some (.ref 222), some (ax_i x1), some (ax_i x2), some (ax_i ((26 * x1) + x2)), y4] [.ref 222] rfl ?_
      refine ax_gR (v := .ref 235) (pc' := 53) ⟨_, rfl⟩ fl_12_46 ay_222 rfl rfl ?_
      refine ax_mv 1 54 [some (.ref 222), some (ax_i x1), some (ax_i x2), some (ax_i ((26 * x1) + x2)), y4] [ax_i ((26 * x1) + x2), .ref 235] rfl ?_
      obtain ⟨o3, h⟩ := h
      refine ax_ild (n := 240) (pc' := 55) ⟨_, rfl⟩ ay_235 (by decide) o3 rfl ?_
      refine ax_if (p1 := 79) (p2 := 58) ⟨_, rfl⟩ (by decide) rfl (hg _ _) (fun hc => ?_) (fun hc => ?_)
      · have h := h.1 hc
        refine ax_mv 1 80 [some (.ref 222), some (ax_i x1), some (ax_i x2), some (ax_i ((26 * x1) + x2)), y4] [ax_i 0] rfl ?_
        refine ax_sti (i := 0) (k := 4) (n := 2) (pc' := 82) (L' := [some (.ref 222), some (ax_i x1), some (ax_i x2), some (ax_i ((26 * x1) + x2)), some (ax_i 0)]) ⟨_, rfl⟩ rfl rfl rfl (Nat.le_of_ble_eq_true rfl) rfl rfl ?_
        exact h
      · have h := h.2 hc
        refine ax_mv 1 59 [some (.ref 222), some (ax_i x1), some (ax_i x2), some (ax_i ((26 * x1) + x2)), y4] [.ref 222] rfl ?_
        refine ax_gR (v := .ref 283) (pc' := 62) ⟨_, rfl⟩ fl_12_191 ay_222 rfl rfl ?_
        refine ax_bip (pc' := 64) ⟨_, rfl⟩ (by decide) rfl ?_
        refine ax_mv 1 65 [some (.ref 222), some (ax_i x1), some (ax_i x2), some (ax_i ((26 * x1) + x2)), y4] [ax_i x2, ax_i 26, .ref 283] rfl ?_
        refine ax_mul (pc' := 66) ⟨_, rfl⟩ rfl ?_
        refine ax_mv 1 67 [some (.ref 222), some (ax_i x1), some (ax_i x2), some (ax_i ((26 * x1) + x2)), y4] [.ref 222, ax_i (26 * x2), .ref 283] rfl ?_
        refine ax_gR (v := .ref 235) (pc' := 70) ⟨_, rfl⟩ fl_12_46 ay_222 rfl rfl ?_
        refine ax_mv 1 71 [some (.ref 222), some (ax_i x1), some (ax_i x2), some (ax_i ((26 * x1) + x2)), y4] [ax_i ((26 * x1) + x2), .ref 235, ax_i (26 * x2), .ref 283] rfl ?_
        obtain ⟨o4, h⟩ := h
        refine ax_ild (n := 240) (pc' := 72) ⟨_, rfl⟩ ay_235 (by decide) o4 rfl ?_
        refine ax_mv 1 73 [some (.ref 222), some (ax_i x1), some (ax_i x2), some (ax_i ((26 * x1) + x2)), y4] [ax_i 1, ax_i (V 235 ((26 * x1) + x2)), ax_i (26 * x2), .ref 283] rfl ?_
        refine ax_sub (pc' := 74) ⟨_, rfl⟩ rfl ?_
        refine ax_mv 1 75 [some (.ref 222), some (ax_i x1), some (ax_i x2), some (ax_i ((26 * x1) + x2)), y4] [ax_i 2, ax_i ((V 235 ((26 * x1) + x2)) - 1), ax_i (26 * x2), .ref 283] rfl ?_
        refine ax_rdiv (pc' := 76) ⟨_, rfl⟩ (by decide) (by decide) rfl ?_
        refine ax_add (pc' := 77) ⟨_, rfl⟩ rfl ?_
        refine ax_mv 1 78 [some (.ref 222), some (ax_i x1), some (ax_i x2), some (ax_i ((26 * x1) + x2)), y4] [ax_i 1, ax_i ((26 * x2) + (ax_div ((V 235 ((26 * x1) + x2)) - 1) 2)), .ref 283] rfl ?_
        obtain ⟨o5, h⟩ := h
        obtain ⟨V1, eV1⟩ : ∃ W9 : ax_V, W9 = ax_u V 283 ((26 * x2) + (ax_div ((V 235 ((26 * x1) + x2)) - 1) 2)) 1 := ⟨_, rfl⟩
        have h := h V1 eV1
        have hg1 : ax_g V1 := eV1 ▸ ax_u_g hg (by decide)
        refine ax_bst (n := 676) (pc' := 79) ⟨_, rfl⟩ ay_ok ay_283 (by decide) o5 (by decide) eV1 rfl ?_
        refine ax_mv 1 80 [some (.ref 222), some (ax_i x1), some (ax_i x2), some (ax_i ((26 * x1) + x2)), y4] [ax_i 0] rfl ?_
        refine ax_sti (i := 0) (k := 4) (n := 2) (pc' := 82) (L' := [some (.ref 222), some (ax_i x1), some (ax_i x2), some (ax_i ((26 * x1) + x2)), some (ax_i 0)]) ⟨_, rfl⟩ rfl rfl rfl (Nat.le_of_ble_eq_true rfl) rfl rfl ?_
        exact h
    · have h := h.1 (Classical.not_not.mp hc)
      refine ax_mv 1 210 [some (.ref 222), some (ax_i x1), some (ax_i x2), some (ax_i ((26 * x1) + x2)), y4] [] rfl ?_
      refine ax_inc (x := x2) (pc' := 213) (L' := [some (.ref 222), some (ax_i x1), some (ax_i (x2 + 1)), some (ax_i ((26 * x1) + x2)), y4]) ⟨_, rfl⟩ rfl rfl rfl rfl ?_
      refine ax_mv 1 24 [some (.ref 222), some (ax_i x1), some (ax_i (x2 + 1)), some (ax_i ((26 * x1) + x2)), y4] [] rfl ?_
      exact h
set_option maxRecDepth 20000 in
theorem r_Model_findHangs_82 {d : Nat} {V : ax_V} {Φ : ax_V → Prop} {Θ : ax_V → Prop} {x1 : Int} {x2 : Int} {x3 : Int} {x4 : Int} (hg : ax_g V) (hx1 : ax_rg x1) (hx2 : ax_rg x2) (hx3 : ax_rg x3) (hx4 : ax_rg x4) (h : ((V 222 44 ≤ x4 → k_Model_findHangs_140 d x1 x2 x3 0 V Φ Θ) ∧ (x4 < V 222 44 → (0 ≤ x4 ∧ x4 < 351) ∧ ((V 258 x4 = x1 → ax_I ay_lay d q_Model_hasLeft [.ref 222, ax_i x4, ax_i x2] V (fun r1 V1 => ((r1 = 0 → k_Model_findHangs_82 d x1 x2 x3 (x4 + 1) V1 Φ Θ) ∧ (¬ r1 = 0 → (0 ≤ x4 ∧ x4 < 351) ∧ (0 ≤ x4 ∧ x4 < 351) ∧ ax_N ay_lay d q_Model_hangOn [.ref 222, ax_i x2, ax_i (V1 261 x4), ax_i (V1 262 x4)] V1 (fun V2 => k_Model_findHangs_82 d x1 x2 x3 (x4 + 1) V2 Φ Θ) Θ))) Θ) ∧ (¬ V 258 x4 = x1 → k_Model_findHangs_82 d x1 x2 x3 (x4 + 1) V Φ Θ))))) : k_Model_findHangs_82 d x1 x2 x3 x4 V Φ Θ := by
  refine ax_mv 2 85 [some (.ref 222), some (ax_i x1), some (ax_i x2), some (ax_i x3), some (ax_i x4)] [.ref 222, ax_i x4] rfl ?_
  refine ax_gI (kI := 44) (pc' := 88) ⟨_, rfl⟩ fl_12_414 ay_222 rfl rfl rfl ?_
  refine ax_if2 (p1 := 137) (p2 := 91) ⟨_, rfl⟩ (by decide) rfl hx4 (hg _ _) (fun hc => ?_) (fun hc => ?_)
  · have h := h.1 hc
    refine ax_mv 1 138 [some (.ref 222), some (ax_i x1), some (ax_i x2), some (ax_i x3), some (ax_i x4)] [ax_i 0] rfl ?_
    refine ax_sti (i := 0) (k := 4) (n := 2) (pc' := 140) (L' := [some (.ref 222), some (ax_i x1), some (ax_i x2), some (ax_i x3), some (ax_i 0)]) ⟨_, rfl⟩ rfl rfl rfl (Nat.le_of_ble_eq_true rfl) rfl rfl ?_
    exact h
  · have h := h.2 (Int.not_le.mp hc)
    refine ax_mv 1 92 [some (.ref 222), some (ax_i x1), some (ax_i x2), some (ax_i x3), some (ax_i x4)] [.ref 222] rfl ?_
    refine ax_gR (v := .ref 258) (pc' := 95) ⟨_, rfl⟩ fl_12_116 ay_222 rfl rfl ?_
    refine ax_mv 1 97 [some (.ref 222), some (ax_i x1), some (ax_i x2), some (ax_i x3), some (ax_i x4)] [ax_i x4, .ref 258] rfl ?_
    obtain ⟨o6, h⟩ := h
    refine ax_ild (n := 351) (pc' := 98) ⟨_, rfl⟩ ay_258 (by decide) o6 rfl ?_
    refine ax_mv 1 99 [some (.ref 222), some (ax_i x1), some (ax_i x2), some (ax_i x3), some (ax_i x4)] [ax_i x1, ax_i (V 258 x4)] rfl ?_
    refine ax_if2 (p1 := 131) (p2 := 102) ⟨_, rfl⟩ (by decide) rfl (hg _ _) hx1 (fun hc => ?_) (fun hc => ?_)
    · have h := h.2 hc
      refine ax_inc (x := x4) (pc' := 134) (L' := [some (.ref 222), some (ax_i x1), some (ax_i x2), some (ax_i x3), some (ax_i (x4 + 1))]) ⟨_, rfl⟩ rfl rfl rfl rfl ?_
      refine ax_mv 1 82 [some (.ref 222), some (ax_i x1), some (ax_i x2), some (ax_i x3), some (ax_i (x4 + 1))] [] rfl ?_
      exact h
    · have h := h.1 (Classical.not_not.mp hc)
      refine ax_mv 3 106 [some (.ref 222), some (ax_i x1), some (ax_i x2), some (ax_i x3), some (ax_i x4)] [ax_i x2, ax_i x4, .ref 222] rfl ?_
      refine ax_callI (pc' := 109) ⟨_, rfl⟩ ml_12_469 (rest := []) rfl (fun ss hs => ⟨_, _, ay_222 ss hs⟩) (Nat.le_of_ble_eq_true rfl) rfl rfl h (fun r1 V1 hg1 hr1 h => ?_)
      refine ax_if (p1 := 131) (p2 := 112) ⟨_, rfl⟩ (by decide) rfl hr1 (fun hc => ?_) (fun hc => ?_)
      · have h := h.1 hc
        refine ax_inc (x := x4) (pc' := 134) (L' := [some (.ref 222), some (ax_i x1), some (ax_i x2), some (ax_i x3), some (ax_i (x4 + 1))]) ⟨_, rfl⟩ rfl rfl rfl rfl ?_
        refine ax_mv 1 82 [some (.ref 222), some (ax_i x1), some (ax_i x2), some (ax_i x3), some (ax_i (x4 + 1))] [] rfl ?_
        exact h
      · have h := h.2 hc
        refine ax_mv 3 115 [some (.ref 222), some (ax_i x1), some (ax_i x2), some (ax_i x3), some (ax_i x4)] [.ref 222, ax_i x2, .ref 222] rfl ?_
        refine ax_gR (v := .ref 261) (pc' := 118) ⟨_, rfl⟩ fl_12_125 ay_222 rfl rfl ?_
        refine ax_mv 1 120 [some (.ref 222), some (ax_i x1), some (ax_i x2), some (ax_i x3), some (ax_i x4)] [ax_i x4, .ref 261, ax_i x2, .ref 222] rfl ?_
        obtain ⟨o7, h⟩ := h
        refine ax_ild (n := 351) (pc' := 121) ⟨_, rfl⟩ ay_261 (by decide) o7 rfl ?_
        refine ax_mv 1 122 [some (.ref 222), some (ax_i x1), some (ax_i x2), some (ax_i x3), some (ax_i x4)] [.ref 222, ax_i (V1 261 x4), ax_i x2, .ref 222] rfl ?_
        refine ax_gR (v := .ref 262) (pc' := 125) ⟨_, rfl⟩ fl_12_128 ay_222 rfl rfl ?_
        refine ax_mv 1 127 [some (.ref 222), some (ax_i x1), some (ax_i x2), some (ax_i x3), some (ax_i x4)] [ax_i x4, .ref 262, ax_i (V1 261 x4), ax_i x2, .ref 222] rfl ?_
        obtain ⟨o8, h⟩ := h
        refine ax_ild (n := 351) (pc' := 128) ⟨_, rfl⟩ ay_262 (by decide) o8 rfl ?_
        refine ax_callN (pc' := 131) ⟨_, rfl⟩ ml_12_519 (rest := []) rfl (fun ss hs => ⟨_, _, ay_222 ss hs⟩) (Nat.le_of_ble_eq_true rfl) rfl rfl h (fun V2 hg2 h => ?_)
        refine ax_inc (x := x4) (pc' := 134) (L' := [some (.ref 222), some (ax_i x1), some (ax_i x2), some (ax_i x3), some (ax_i (x4 + 1))]) ⟨_, rfl⟩ rfl rfl rfl rfl ?_
        refine ax_mv 1 82 [some (.ref 222), some (ax_i x1), some (ax_i x2), some (ax_i x3), some (ax_i (x4 + 1))] [] rfl ?_
        exact h
set_option maxRecDepth 20000 in
theorem r_Model_findHangs_140 {d : Nat} {V : ax_V} {Φ : ax_V → Prop} {Θ : ax_V → Prop} {x1 : Int} {x2 : Int} {x3 : Int} {x4 : Int} (hg : ax_g V) (hx1 : ax_rg x1) (hx2 : ax_rg x2) (hx3 : ax_rg x3) (hx4 : ax_rg x4) (h : ((V 222 60 ≤ x4 → k_Model_findHangs_24 d x1 (x2 + 1) (some (ax_i x3)) (some (ax_i x4)) V Φ Θ) ∧ (x4 < V 222 60 → (0 ≤ x3 ∧ x3 < 240) ∧ ((V 239 x3 = -1 → k_Model_findHangs_24 d x1 (x2 + 1) (some (ax_i x3)) (some (ax_i x4)) V Φ Θ) ∧ (¬ V 239 x3 = -1 → (0 ≤ x4 ∧ x4 < 351) ∧ (0 ≤ x3 ∧ x3 < 240) ∧ ((V 271 x4 = V 239 x3 → (0 ≤ x4 ∧ x4 < 351) ∧ ((V 273 x4 = 0 → k_Model_findHangs_140 d x1 x2 x3 (x4 + 1) V Φ Θ) ∧ (¬ V 273 x4 = 0 → (0 ≤ x4 ∧ x4 < 351) ∧ (0 ≤ x4 ∧ x4 < 351) ∧ ax_N ay_lay d q_Model_hangOn [.ref 222, ax_i x2, ax_i (V 276 x4), ax_i (V 277 x4)] V (fun V1 => k_Model_findHangs_140 d x1 x2 x3 (x4 + 1) V1 Φ Θ) Θ))) ∧ (¬ V 271 x4 = V 239 x3 → k_Model_findHangs_140 d x1 x2 x3 (x4 + 1) V Φ Θ))))))) : k_Model_findHangs_140 d x1 x2 x3 x4 V Φ Θ := by
  refine ax_mv 2 143 [some (.ref 222), some (ax_i x1), some (ax_i x2), some (ax_i x3), some (ax_i x4)] [.ref 222, ax_i x4] rfl ?_
  refine ax_gI (kI := 60) (pc' := 146) ⟨_, rfl⟩ fl_12_420 ay_222 rfl rfl rfl ?_
  refine ax_if2 (p1 := 210) (p2 := 149) ⟨_, rfl⟩ (by decide) rfl hx4 (hg _ _) (fun hc => ?_) (fun hc => ?_)
  · have h := h.1 hc
    refine ax_inc (x := x2) (pc' := 213) (L' := [some (.ref 222), some (ax_i x1), some (ax_i (x2 + 1)), some (ax_i x3), some (ax_i x4)]) ⟨_, rfl⟩ rfl rfl rfl rfl ?_
    refine ax_mv 1 24 [some (.ref 222), some (ax_i x1), some (ax_i (x2 + 1)), some (ax_i x3), some (ax_i x4)] [] rfl ?_
    exact h
  · have h := h.2 (Int.not_le.mp hc)
    refine ax_mv 1 150 [some (.ref 222), some (ax_i x1), some (ax_i x2), some (ax_i x3), some (ax_i x4)] [.ref 222] rfl ?_
    refine ax_gR (v := .ref 239) (pc' := 153) ⟨_, rfl⟩ fl_12_59 ay_222 rfl rfl ?_
    refine ax_mv 1 154 [some (.ref 222), some (ax_i x1), some (ax_i x2), some (ax_i x3), some (ax_i x4)] [ax_i x3, .ref 239] rfl ?_
    obtain ⟨o9, h⟩ := h
    refine ax_ild (n := 240) (pc' := 155) ⟨_, rfl⟩ ay_239 (by decide) o9 rfl ?_
    refine ax_mv 1 156 [some (.ref 222), some (ax_i x1), some (ax_i x2), some (ax_i x3), some (ax_i x4)] [ax_i (-1), ax_i (V 239 x3)] rfl ?_
    refine ax_if2 (p1 := 210) (p2 := 159) ⟨_, rfl⟩ (by decide) rfl (hg _ _) (by decide) (fun hc => ?_) (fun hc => ?_)
    · have h := h.1 hc
      refine ax_inc (x := x2) (pc' := 213) (L' := [some (.ref 222), some (ax_i x1), some (ax_i (x2 + 1)), some (ax_i x3), some (ax_i x4)]) ⟨_, rfl⟩ rfl rfl rfl rfl ?_
      refine ax_mv 1 24 [some (.ref 222), some (ax_i x1), some (ax_i (x2 + 1)), some (ax_i x3), some (ax_i x4)] [] rfl ?_
      exact h
    · have h := h.2 hc
      refine ax_mv 1 160 [some (.ref 222), some (ax_i x1), some (ax_i x2), some (ax_i x3), some (ax_i x4)] [.ref 222] rfl ?_
      refine ax_gR (v := .ref 271) (pc' := 163) ⟨_, rfl⟩ fl_12_155 ay_222 rfl rfl ?_
      refine ax_mv 1 165 [some (.ref 222), some (ax_i x1), some (ax_i x2), some (ax_i x3), some (ax_i x4)] [ax_i x4, .ref 271] rfl ?_
      obtain ⟨o10, h⟩ := h
      refine ax_ild (n := 351) (pc' := 166) ⟨_, rfl⟩ ay_271 (by decide) o10 rfl ?_
      refine ax_mv 1 167 [some (.ref 222), some (ax_i x1), some (ax_i x2), some (ax_i x3), some (ax_i x4)] [.ref 222, ax_i (V 271 x4)] rfl ?_
      refine ax_gR (v := .ref 239) (pc' := 170) ⟨_, rfl⟩ fl_12_59 ay_222 rfl rfl ?_
      refine ax_mv 1 171 [some (.ref 222), some (ax_i x1), some (ax_i x2), some (ax_i x3), some (ax_i x4)] [ax_i x3, .ref 239, ax_i (V 271 x4)] rfl ?_
      obtain ⟨o11, h⟩ := h
      refine ax_ild (n := 240) (pc' := 172) ⟨_, rfl⟩ ay_239 (by decide) o11 rfl ?_
      refine ax_if2 (p1 := 204) (p2 := 175) ⟨_, rfl⟩ (by decide) rfl (hg _ _) (hg _ _) (fun hc => ?_) (fun hc => ?_)
      · have h := h.2 hc
        refine ax_inc (x := x4) (pc' := 207) (L' := [some (.ref 222), some (ax_i x1), some (ax_i x2), some (ax_i x3), some (ax_i (x4 + 1))]) ⟨_, rfl⟩ rfl rfl rfl rfl ?_
        refine ax_mv 1 140 [some (.ref 222), some (ax_i x1), some (ax_i x2), some (ax_i x3), some (ax_i (x4 + 1))] [] rfl ?_
        exact h
      · have h := h.1 (Classical.not_not.mp hc)
        refine ax_mv 1 176 [some (.ref 222), some (ax_i x1), some (ax_i x2), some (ax_i x3), some (ax_i x4)] [.ref 222] rfl ?_
        refine ax_gR (v := .ref 273) (pc' := 179) ⟨_, rfl⟩ fl_12_161 ay_222 rfl rfl ?_
        refine ax_mv 1 181 [some (.ref 222), some (ax_i x1), some (ax_i x2), some (ax_i x3), some (ax_i x4)] [ax_i x4, .ref 273] rfl ?_
        obtain ⟨o12, h⟩ := h
        refine ax_bld (n := 351) (pc' := 182) ⟨_, rfl⟩ ay_273 (by decide) o12 rfl ?_
        refine ax_if (p1 := 204) (p2 := 185) ⟨_, rfl⟩ (by decide) rfl (hg _ _) (fun hc => ?_) (fun hc => ?_)
        · have h := h.1 hc
          refine ax_inc (x := x4) (pc' := 207) (L' := [some (.ref 222), some (ax_i x1), some (ax_i x2), some (ax_i x3), some (ax_i (x4 + 1))]) ⟨_, rfl⟩ rfl rfl rfl rfl ?_
          refine ax_mv 1 140 [some (.ref 222), some (ax_i x1), some (ax_i x2), some (ax_i x3), some (ax_i (x4 + 1))] [] rfl ?_
          exact h
        · have h := h.2 hc
          refine ax_mv 3 188 [some (.ref 222), some (ax_i x1), some (ax_i x2), some (ax_i x3), some (ax_i x4)] [.ref 222, ax_i x2, .ref 222] rfl ?_
          refine ax_gR (v := .ref 276) (pc' := 191) ⟨_, rfl⟩ fl_12_170 ay_222 rfl rfl ?_
          refine ax_mv 1 193 [some (.ref 222), some (ax_i x1), some (ax_i x2), some (ax_i x3), some (ax_i x4)] [ax_i x4, .ref 276, ax_i x2, .ref 222] rfl ?_
          obtain ⟨o13, h⟩ := h
          refine ax_ild (n := 351) (pc' := 194) ⟨_, rfl⟩ ay_276 (by decide) o13 rfl ?_
          refine ax_mv 1 195 [some (.ref 222), some (ax_i x1), some (ax_i x2), some (ax_i x3), some (ax_i x4)] [.ref 222, ax_i (V 276 x4), ax_i x2, .ref 222] rfl ?_
          refine ax_gR (v := .ref 277) (pc' := 198) ⟨_, rfl⟩ fl_12_173 ay_222 rfl rfl ?_
          refine ax_mv 1 200 [some (.ref 222), some (ax_i x1), some (ax_i x2), some (ax_i x3), some (ax_i x4)] [ax_i x4, .ref 277, ax_i (V 276 x4), ax_i x2, .ref 222] rfl ?_
          obtain ⟨o14, h⟩ := h
          refine ax_ild (n := 351) (pc' := 201) ⟨_, rfl⟩ ay_277 (by decide) o14 rfl ?_
          refine ax_callN (pc' := 204) ⟨_, rfl⟩ ml_12_519 (rest := []) rfl (fun ss hs => ⟨_, _, ay_222 ss hs⟩) (Nat.le_of_ble_eq_true rfl) rfl rfl h (fun V1 hg1 h => ?_)
          refine ax_inc (x := x4) (pc' := 207) (L' := [some (.ref 222), some (ax_i x1), some (ax_i x2), some (ax_i x3), some (ax_i (x4 + 1))]) ⟨_, rfl⟩ rfl rfl rfl rfl ?_
          refine ax_mv 1 140 [some (.ref 222), some (ax_i x1), some (ax_i x2), some (ax_i x3), some (ax_i (x4 + 1))] [] rfl ?_
          exact h
set_option maxRecDepth 20000 in
theorem r_Model_findHangs {d : Nat} {V : ax_V} {Φ : ax_V → Prop} {Θ : ax_V → Prop} {x1 : Int} (hg : ax_g V) (hx1 : ax_rg x1) (h : k_Model_findHangs_2 d x1 0 none none V Φ Θ) : ax_N ay_lay (d + 1) q_Model_findHangs [.ref 222, ax_i x1] V Φ Θ := by
  refine ax_T.of (M := m_Model_findHangs) rfl (Nat.le_of_ble_eq_true rfl) ?_
  refine ax_mv 0 0 [some (.ref 222), some (ax_i x1), none, none, none] [] rfl ?_
  refine ax_mv 1 1 [some (.ref 222), some (ax_i x1), none, none, none] [ax_i 0] rfl ?_
  refine ax_sti (i := 0) (k := 2) (n := 1) (pc' := 2) (L' := [some (.ref 222), some (ax_i x1), some (ax_i 0), none, none]) ⟨_, rfl⟩ rfl rfl rfl (Nat.le_of_ble_eq_true rfl) rfl rfl ?_
  exact h
abbrev k_Model_hangOn_3 (d : Nat) (x1 : Int) (y2 : Option Value) (x3 : Int) (x4 : Int) (V : ax_V) (Φ : ax_V → Prop) (Θ : ax_V → Prop) : Prop := ax_R ay_lay ax_t d m_Model_hangOn 3 [some (.ref 222), some (ax_i x1), y2, some (ax_i x3), some (ax_i x4)] [] V (ax_Nr Φ) Θ
theorem r_Model_hangOn_3 {d : Nat} {V : ax_V} {Φ : ax_V → Prop} {Θ : ax_V → Prop} {x1 : Int} {y2 : Option Value} {x3 : Int} {x4 : Int} (hg : ax_g V) (hx1 : ax_rg x1) (hy2 : ax_y y2) (hx3 : ax_rg x3) (hx4 : ax_rg x4) (h : ((x3 < x4 → Φ V) ∧ (x4 ≤ x3 → (0 ≤ x4 ∧ x4 < 701) ∧ ((V 256 x4 = 0 → (0 ≤ x4 ∧ x4 < 701) ∧ ((V 241 x4 = 3 → k_Model_hangOn_3 d x1 y2 x3 (x4 + 1) V Φ Θ) ∧ (¬ V 241 x4 = 3 → (0 ≤ x4 ∧ x4 < 701) ∧ ((V 248 x4 = -1 → k_Model_hangOn_3 d x1 y2 x3 (x4 + 1) V Φ Θ) ∧ (¬ V 248 x4 = -1 → (0 ≤ x4 ∧ x4 < 701) ∧ (0 ≤ (26 * x1) + (V 248 x4) ∧ (26 * x1) + (V 248 x4) < 676) ∧ (∀ V1, V1 = ax_u V 283 ((26 * x1) + (V 248 x4)) 1 → k_Model_hangOn_3 d x1 y2 x3 (x4 + 1) V1 Φ Θ)))))) ∧ (¬ V 256 x4 = 0 → k_Model_hangOn_3 d x1 y2 x3 (x4 + 1) V Φ Θ))))) : k_Model_hangOn_3 d x1 y2 x3 x4 V Φ Θ := by
  refine ax_mv 2 6 [some (.ref 222), some (ax_i x1), y2, some (ax_i x3), some (ax_i x4)] [ax_i x3, ax_i x4] rfl ?_
  refine ax_if2 (p1 := 65) (p2 := 9) ⟨_, rfl⟩ (by decide) rfl hx4 hx3 (fun hc => ?_) (fun hc => ?_)
  · have h := h.1 hc
    exact ax_nret ⟨_, rfl⟩ rfl hg h
  · have h := h.2 (Int.not_lt.mp hc)
    refine ax_mv 1 10 [some (.ref 222), some (ax_i x1), y2, some (ax_i x3), some (ax_i x4)] [.ref 222] rfl ?_
    refine ax_gR (v := .ref 256) (pc' := 13) ⟨_, rfl⟩ fl_12_110 ay_222 rfl rfl ?_
    refine ax_mv 1 15 [some (.ref 222), some (ax_i x1), y2, some (ax_i x3), some (ax_i x4)] [ax_i x4, .ref 256] rfl ?_
    obtain ⟨o1, h⟩ := h
    refine ax_bld (n := 701) (pc' := 16) ⟨_, rfl⟩ ay_256 (by decide) o1 rfl ?_
    refine ax_if (p1 := 59) (p2 := 19) ⟨_, rfl⟩ (by decide) rfl (hg _ _) (fun hc => ?_) (fun hc => ?_)
    · have h := h.2 hc
      refine ax_inc (x := x4) (pc' := 62) (L' := [some (.ref 222), some (ax_i x1), y2, some (ax_i x3), some (ax_i (x4 + 1))]) ⟨_, rfl⟩ rfl rfl rfl rfl ?_
      refine ax_mv 1 3 [some (.ref 222), some (ax_i x1), y2, some (ax_i x3), some (ax_i (x4 + 1))] [] rfl ?_
      exact h
    · have h := h.1 (Classical.not_not.mp hc)
      refine ax_mv 1 20 [some (.ref 222), some (ax_i x1), y2, some (ax_i x3), some (ax_i x4)] [.ref 222] rfl ?_
      refine ax_gR (v := .ref 241) (pc' := 23) ⟨_, rfl⟩ fl_12_65 ay_222 rfl rfl ?_
      refine ax_mv 1 25 [some (.ref 222), some (ax_i x1), y2, some (ax_i x3), some (ax_i x4)] [ax_i x4, .ref 241] rfl ?_
      obtain ⟨o2, h⟩ := h
      refine ax_ild (n := 701) (pc' := 26) ⟨_, rfl⟩ ay_241 (by decide) o2 rfl ?_
      refine ax_mv 1 27 [some (.ref 222), some (ax_i x1), y2, some (ax_i x3), some (ax_i x4)] [ax_i 3, ax_i (V 241 x4)] rfl ?_
      refine ax_if2 (p1 := 59) (p2 := 30) ⟨_, rfl⟩ (by decide) rfl (hg _ _) (by decide) (fun hc => ?_) (fun hc => ?_)
      · have h := h.1 hc
        refine ax_inc (x := x4) (pc' := 62) (L' := [some (.ref 222), some (ax_i x1), y2, some (ax_i x3), some (ax_i (x4 + 1))]) ⟨_, rfl⟩ rfl rfl rfl rfl ?_
        refine ax_mv 1 3 [some (.ref 222), some (ax_i x1), y2, some (ax_i x3), some (ax_i (x4 + 1))] [] rfl ?_
        exact h
      · have h := h.2 hc
        refine ax_mv 1 31 [some (.ref 222), some (ax_i x1), y2, some (ax_i x3), some (ax_i x4)] [.ref 222] rfl ?_
        refine ax_gR (v := .ref 248) (pc' := 34) ⟨_, rfl⟩ fl_12_86 ay_222 rfl rfl ?_
        refine ax_mv 1 36 [some (.ref 222), some (ax_i x1), y2, some (ax_i x3), some (ax_i x4)] [ax_i x4, .ref 248] rfl ?_
        obtain ⟨o3, h⟩ := h
        refine ax_ild (n := 701) (pc' := 37) ⟨_, rfl⟩ ay_248 (by decide) o3 rfl ?_
        refine ax_mv 1 38 [some (.ref 222), some (ax_i x1), y2, some (ax_i x3), some (ax_i x4)] [ax_i (-1), ax_i (V 248 x4)] rfl ?_
        refine ax_if2 (p1 := 59) (p2 := 41) ⟨_, rfl⟩ (by decide) rfl (hg _ _) (by decide) (fun hc => ?_) (fun hc => ?_)
        · have h := h.1 hc
          refine ax_inc (x := x4) (pc' := 62) (L' := [some (.ref 222), some (ax_i x1), y2, some (ax_i x3), some (ax_i (x4 + 1))]) ⟨_, rfl⟩ rfl rfl rfl rfl ?_
          refine ax_mv 1 3 [some (.ref 222), some (ax_i x1), y2, some (ax_i x3), some (ax_i (x4 + 1))] [] rfl ?_
          exact h
        · have h := h.2 hc
          refine ax_mv 1 42 [some (.ref 222), some (ax_i x1), y2, some (ax_i x3), some (ax_i x4)] [.ref 222] rfl ?_
          refine ax_gR (v := .ref 283) (pc' := 45) ⟨_, rfl⟩ fl_12_191 ay_222 rfl rfl ?_
          refine ax_bip (pc' := 47) ⟨_, rfl⟩ (by decide) rfl ?_
          refine ax_mv 1 48 [some (.ref 222), some (ax_i x1), y2, some (ax_i x3), some (ax_i x4)] [ax_i x1, ax_i 26, .ref 283] rfl ?_
          refine ax_mul (pc' := 49) ⟨_, rfl⟩ rfl ?_
          refine ax_mv 1 50 [some (.ref 222), some (ax_i x1), y2, some (ax_i x3), some (ax_i x4)] [.ref 222, ax_i (26 * x1), .ref 283] rfl ?_
          refine ax_gR (v := .ref 248) (pc' := 53) ⟨_, rfl⟩ fl_12_86 ay_222 rfl rfl ?_
          refine ax_mv 1 55 [some (.ref 222), some (ax_i x1), y2, some (ax_i x3), some (ax_i x4)] [ax_i x4, .ref 248, ax_i (26 * x1), .ref 283] rfl ?_
          obtain ⟨o4, h⟩ := h
          refine ax_ild (n := 701) (pc' := 56) ⟨_, rfl⟩ ay_248 (by decide) o4 rfl ?_
          refine ax_add (pc' := 57) ⟨_, rfl⟩ rfl ?_
          refine ax_mv 1 58 [some (.ref 222), some (ax_i x1), y2, some (ax_i x3), some (ax_i x4)] [ax_i 1, ax_i ((26 * x1) + (V 248 x4)), .ref 283] rfl ?_
          obtain ⟨o5, h⟩ := h
          obtain ⟨V1, eV1⟩ : ∃ W9 : ax_V, W9 = ax_u V 283 ((26 * x1) + (V 248 x4)) 1 := ⟨_, rfl⟩
          have h := h V1 eV1
          have hg1 : ax_g V1 := eV1 ▸ ax_u_g hg (by decide)
          refine ax_bst (n := 676) (pc' := 59) ⟨_, rfl⟩ ay_ok ay_283 (by decide) o5 (by decide) eV1 rfl ?_
          refine ax_inc (x := x4) (pc' := 62) (L' := [some (.ref 222), some (ax_i x1), y2, some (ax_i x3), some (ax_i (x4 + 1))]) ⟨_, rfl⟩ rfl rfl rfl rfl ?_
          refine ax_mv 1 3 [some (.ref 222), some (ax_i x1), y2, some (ax_i x3), some (ax_i (x4 + 1))] [] rfl ?_
          exact h
theorem r_Model_hangOn {d : Nat} {V : ax_V} {Φ : ax_V → Prop} {Θ : ax_V → Prop} {x1 : Int} {x2 : Int} {x3 : Int} (hg : ax_g V) (hx1 : ax_rg x1) (hx2 : ax_rg x2) (hx3 : ax_rg x3) (h : k_Model_hangOn_3 d x1 (some (ax_i x2)) x3 x2 V Φ Θ) : ax_N ay_lay (d + 1) q_Model_hangOn [.ref 222, ax_i x1, ax_i x2, ax_i x3] V Φ Θ := by
  refine ax_T.of (M := m_Model_hangOn) rfl (Nat.le_of_ble_eq_true rfl) ?_
  refine ax_mv 0 0 [some (.ref 222), some (ax_i x1), some (ax_i x2), some (ax_i x3), none] [] rfl ?_
  refine ax_mv 1 1 [some (.ref 222), some (ax_i x1), some (ax_i x2), some (ax_i x3), none] [ax_i x2] rfl ?_
  refine ax_sti (i := 0) (k := 4) (n := 2) (pc' := 3) (L' := [some (.ref 222), some (ax_i x1), some (ax_i x2), some (ax_i x3), some (ax_i x2)]) ⟨_, rfl⟩ rfl rfl rfl (Nat.le_of_ble_eq_true rfl) rfl rfl ?_
  exact h
abbrev k_Model_findOrder_9 (d : Nat) (x1 : Int) (x2 : Int) (y3 : Option Value) (y4 : Option Value) (y5 : Option Value) (V : ax_V) (Φ : ax_V → Prop) (Θ : ax_V → Prop) : Prop := ax_R ay_lay ax_t d m_Model_findOrder 9 [some (.ref 222), some (ax_i x1), some (ax_i x2), y3, y4, y5] [] V (ax_Nr Φ) Θ
abbrev k_Model_findOrder_48 (d : Nat) (x1 : Int) (x2 : Int) (y3 : Option Value) (y4 : Option Value) (y5 : Option Value) (V : ax_V) (Φ : ax_V → Prop) (Θ : ax_V → Prop) : Prop := ax_R ay_lay ax_t d m_Model_findOrder 48 [some (.ref 222), some (ax_i x1), some (ax_i x2), y3, y4, y5] [] V (ax_Nr Φ) Θ
abbrev k_Model_findOrder_56 (d : Nat) (x1 : Int) (x2 : Int) (x3 : Int) (y4 : Option Value) (y5 : Option Value) (V : ax_V) (Φ : ax_V → Prop) (Θ : ax_V → Prop) : Prop := ax_R ay_lay ax_t d m_Model_findOrder 56 [some (.ref 222), some (ax_i x1), some (ax_i x2), some (ax_i x3), y4, y5] [] V (ax_Nr Φ) Θ
abbrev k_Model_findOrder_81 (d : Nat) (x1 : Int) (x2 : Int) (x3 : Int) (x4 : Int) (x5 : Int) (V : ax_V) (Φ : ax_V → Prop) (Θ : ax_V → Prop) : Prop := ax_R ay_lay ax_t d m_Model_findOrder 81 [some (.ref 222), some (ax_i x1), some (ax_i x2), some (ax_i x3), some (ax_i x4), some (ax_i x5)] [] V (ax_Nr Φ) Θ
abbrev k_Model_findOrder_131 (d : Nat) (x1 : Int) (x2 : Int) (x3 : Int) (x4 : Int) (y5 : Option Value) (V : ax_V) (Φ : ax_V → Prop) (Θ : ax_V → Prop) : Prop := ax_R ay_lay ax_t d m_Model_findOrder 131 [some (.ref 222), some (ax_i x1), some (ax_i x2), some (ax_i x3), some (ax_i x4), y5] [] V (ax_Nr Φ) Θ
set_option maxRecDepth 20000 in
theorem r_Model_findOrder_9 {d : Nat} {V : ax_V} {Φ : ax_V → Prop} {Θ : ax_V → Prop} {x1 : Int} {x2 : Int} {y3 : Option Value} {y4 : Option Value} {y5 : Option Value} (hg : ax_g V) (hx1 : ax_rg x1) (hx2 : ax_rg x2) (hy3 : ax_y y3) (hy4 : ax_y y4) (hy5 : ax_y y5) (h : ((26 ≤ x2 → k_Model_findOrder_48 d x1 1 y3 y4 y5 V Φ Θ) ∧ (x2 < 26 → (0 ≤ (26 * x1) + x2 ∧ (26 * x1) + x2 < 240) ∧ ((V 232 ((26 * x1) + x2) = 0 → (0 ≤ x2 ∧ x2 < 26) ∧ (∀ V2, V2 = ax_u V 286 x2 1 → k_Model_findOrder_9 d x1 (x2 + 1) y3 y4 y5 V2 Φ Θ)) ∧ (¬ V 232 ((26 * x1) + x2) = 0 → (0 ≤ x2 ∧ x2 < 26) ∧ (∀ V1, V1 = ax_u V 286 x2 0 → k_Model_findOrder_9 d x1 (x2 + 1) y3 y4 y5 V1 Φ Θ)))))) : k_Model_findOrder_9 d x1 x2 y3 y4 y5 V Φ Θ := by
  refine ax_mv 1 10 [some (.ref 222), some (ax_i x1), some (ax_i x2), y3, y4, y5] [ax_i x2] rfl ?_
  refine ax_bip (pc' := 12) ⟨_, rfl⟩ (by decide) rfl ?_
  refine ax_if2 (p1 := 46) (p2 := 15) ⟨_, rfl⟩ (by decide) rfl hx2 (by decide) (fun hc => ?_) (fun hc => ?_)
  · have h := h.1 hc
    refine ax_mv 1 47 [some (.ref 222), some (ax_i x1), some (ax_i x2), y3, y4, y5] [ax_i 1] rfl ?_
    refine ax_sti (i := 0) (k := 2) (n := 1) (pc' := 48) (L' := [some (.ref 222), some (ax_i x1), some (ax_i 1), y3, y4, y5]) ⟨_, rfl⟩ rfl rfl rfl (Nat.le_of_ble_eq_true rfl) rfl rfl ?_
    exact h
  · have h := h.2 (Int.not_le.mp hc)
    refine ax_mv 1 16 [some (.ref 222), some (ax_i x1), some (ax_i x2), y3, y4, y5] [.ref 222] rfl ?_
    refine ax_gR (v := .ref 286) (pc' := 19) ⟨_, rfl⟩ fl_12_200 ay_222 rfl rfl ?_
    refine ax_mv 2 21 [some (.ref 222), some (ax_i x1), some (ax_i x2), y3, y4, y5] [.ref 222, ax_i x2, .ref 286] rfl ?_
    refine ax_gR (v := .ref 232) (pc' := 24) ⟨_, rfl⟩ fl_12_37 ay_222 rfl rfl ?_
    refine ax_bip (pc' := 26) ⟨_, rfl⟩ (by decide) rfl ?_
    refine ax_mv 1 27 [some (.ref 222), some (ax_i x1), some (ax_i x2), y3, y4, y5] [ax_i x1, ax_i 26, .ref 232, ax_i x2, .ref 286] rfl ?_
    refine ax_mul (pc' := 28) ⟨_, rfl⟩ rfl ?_
    refine ax_mv 1 29 [some (.ref 222), some (ax_i x1), some (ax_i x2), y3, y4, y5] [ax_i x2, ax_i (26 * x1), .ref 232, ax_i x2, .ref 286] rfl ?_
    refine ax_add (pc' := 30) ⟨_, rfl⟩ rfl ?_
    obtain ⟨o1, h⟩ := h
    refine ax_ild (n := 240) (pc' := 31) ⟨_, rfl⟩ ay_232 (by decide) o1 rfl ?_
    refine ax_if (p1 := 38) (p2 := 34) ⟨_, rfl⟩ (by decide) rfl (hg _ _) (fun hc => ?_) (fun hc => ?_)
    · have h := h.2 hc
      refine ax_mv 1 39 [some (.ref 222), some (ax_i x1), some (ax_i x2), y3, y4, y5] [ax_i 0, ax_i x2, .ref 286] rfl ?_
      obtain ⟨o2, h⟩ := h
      obtain ⟨V1, eV1⟩ : ∃ W9 : ax_V, W9 = ax_u V 286 x2 0 := ⟨_, rfl⟩
      have h := h V1 eV1
      have hg1 : ax_g V1 := eV1 ▸ ax_u_g hg (by decide)
      refine ax_bst (n := 26) (pc' := 40) ⟨_, rfl⟩ ay_ok ay_286 (by decide) o2 (by decide) eV1 rfl ?_
      refine ax_inc (x := x2) (pc' := 43) (L' := [some (.ref 222), some (ax_i x1), some (ax_i (x2 + 1)), y3, y4, y5]) ⟨_, rfl⟩ rfl rfl rfl rfl ?_
      refine ax_mv 1 9 [some (.ref 222), some (ax_i x1), some (ax_i (x2 + 1)), y3, y4, y5] [] rfl ?_
      exact h
    · have h := h.1 (Classical.not_not.mp hc)
      refine ax_mv 2 39 [some (.ref 222), some (ax_i x1), some (ax_i x2), y3, y4, y5] [ax_i 1, ax_i x2, .ref 286] rfl ?_
      obtain ⟨o3, h⟩ := h
      obtain ⟨V2, eV2⟩ : ∃ W9 : ax_V, W9 = ax_u V 286 x2 1 := ⟨_, rfl⟩
      have h := h V2 eV2
      have hg2 : ax_g V2 := eV2 ▸ ax_u_g hg (by decide)
      refine ax_bst (n := 26) (pc' := 40) ⟨_, rfl⟩ ay_ok ay_286 (by decide) o3 (by decide) eV2 rfl ?_
      refine ax_inc (x := x2) (pc' := 43) (L' := [some (.ref 222), some (ax_i x1), some (ax_i (x2 + 1)), y3, y4, y5]) ⟨_, rfl⟩ rfl rfl rfl rfl ?_
      refine ax_mv 1 9 [some (.ref 222), some (ax_i x1), some (ax_i (x2 + 1)), y3, y4, y5] [] rfl ?_
      exact h
set_option maxRecDepth 20000 in
theorem r_Model_findOrder_48 {d : Nat} {V : ax_V} {Φ : ax_V → Prop} {Θ : ax_V → Prop} {x1 : Int} {x2 : Int} {y3 : Option Value} {y4 : Option Value} {y5 : Option Value} (hg : ax_g V) (hx1 : ax_rg x1) (hx2 : ax_rg x2) (hy3 : ax_y y3) (hy4 : ax_y y4) (hy5 : ax_y y5) (h : ((x2 = 0 → Φ V) ∧ (¬ x2 = 0 → k_Model_findOrder_56 d x1 0 0 y4 y5 V Φ Θ))) : k_Model_findOrder_48 d x1 x2 y3 y4 y5 V Φ Θ := by
  refine ax_mv 1 49 [some (.ref 222), some (ax_i x1), some (ax_i x2), y3, y4, y5] [ax_i x2] rfl ?_
  refine ax_if (p1 := 184) (p2 := 52) ⟨_, rfl⟩ (by decide) rfl hx2 (fun hc => ?_) (fun hc => ?_)
  · have h := h.1 hc
    exact ax_nret ⟨_, rfl⟩ rfl hg h
  · have h := h.2 hc
    refine ax_mv 1 53 [some (.ref 222), some (ax_i x1), some (ax_i x2), y3, y4, y5] [ax_i 0] rfl ?_
    refine ax_sti (i := 0) (k := 2) (n := 1) (pc' := 54) (L' := [some (.ref 222), some (ax_i x1), some (ax_i 0), y3, y4, y5]) ⟨_, rfl⟩ rfl rfl rfl (Nat.le_of_ble_eq_true rfl) rfl rfl ?_
    refine ax_mv 1 55 [some (.ref 222), some (ax_i x1), some (ax_i 0), y3, y4, y5] [ax_i 0] rfl ?_
    refine ax_sti (i := 0) (k := 3) (n := 1) (pc' := 56) (L' := [some (.ref 222), some (ax_i x1), some (ax_i 0), some (ax_i 0), y4, y5]) ⟨_, rfl⟩ rfl rfl rfl (Nat.le_of_ble_eq_true rfl) rfl rfl ?_
    exact h
set_option maxRecDepth 20000 in
theorem r_Model_findOrder_56 {d : Nat} {V : ax_V} {Φ : ax_V → Prop} {Θ : ax_V → Prop} {x1 : Int} {x2 : Int} {x3 : Int} {y4 : Option Value} {y5 : Option Value} (hg : ax_g V) (hx1 : ax_rg x1) (hx2 : ax_rg x2) (hx3 : ax_rg x3) (hy4 : ax_y y4) (hy5 : ax_y y5) (h : ((26 ≤ x3 → k_Model_findOrder_48 d x1 x2 (some (ax_i x3)) y4 y5 V Φ Θ) ∧ (x3 < 26 → (0 ≤ x3 ∧ x3 < 26) ∧ ((V 286 x3 = 0 → k_Model_findOrder_81 d x1 x2 x3 1 0 V Φ Θ) ∧ (¬ V 286 x3 = 0 → k_Model_findOrder_81 d x1 x2 x3 0 0 V Φ Θ))))) : k_Model_findOrder_56 d x1 x2 x3 y4 y5 V Φ Θ := by
  refine ax_mv 1 57 [some (.ref 222), some (ax_i x1), some (ax_i x2), some (ax_i x3), y4, y5] [ax_i x3] rfl ?_
  refine ax_bip (pc' := 59) ⟨_, rfl⟩ (by decide) rfl ?_
  refine ax_if2 (p1 := 181) (p2 := 62) ⟨_, rfl⟩ (by decide) rfl hx3 (by decide) (fun hc => ?_) (fun hc => ?_)
  · have h := h.1 hc
    refine ax_mv 1 48 [some (.ref 222), some (ax_i x1), some (ax_i x2), some (ax_i x3), y4, y5] [] rfl ?_
    exact h
  · have h := h.2 (Int.not_le.mp hc)
    refine ax_mv 1 63 [some (.ref 222), some (ax_i x1), some (ax_i x2), some (ax_i x3), y4, y5] [.ref 222] rfl ?_
    refine ax_gR (v := .ref 286) (pc' := 66) ⟨_, rfl⟩ fl_12_200 ay_222 rfl rfl ?_
    refine ax_mv 1 67 [some (.ref 222), some (ax_i x1), some (ax_i x2), some (ax_i x3), y4, y5] [ax_i x3, .ref 286] rfl ?_
    obtain ⟨o4, h⟩ := h
    refine ax_bld (n := 26) (pc' := 68) ⟨_, rfl⟩ ay_286 (by decide) o4 rfl ?_
    refine ax_if (p1 := 75) (p2 := 71) ⟨_, rfl⟩ (by decide) rfl (hg _ _) (fun hc => ?_) (fun hc => ?_)
    · have h := h.2 hc
      refine ax_mv 1 76 [some (.ref 222), some (ax_i x1), some (ax_i x2), some (ax_i x3), y4, y5] [ax_i 0] rfl ?_
      refine ax_sti (i := 0) (k := 4) (n := 2) (pc' := 78) (L' := [some (.ref 222), some (ax_i x1), some (ax_i x2), some (ax_i x3), some (ax_i 0), y5]) ⟨_, rfl⟩ rfl rfl rfl (Nat.le_of_ble_eq_true rfl) rfl rfl ?_
      refine ax_mv 1 79 [some (.ref 222), some (ax_i x1), some (ax_i x2), some (ax_i x3), some (ax_i 0), y5] [ax_i 0] rfl ?_
      refine ax_sti (i := 0) (k := 5) (n := 2) (pc' := 81) (L' := [some (.ref 222), some (ax_i x1), some (ax_i x2), some (ax_i x3), some (ax_i 0), some (ax_i 0)]) ⟨_, rfl⟩ rfl rfl rfl (Nat.le_of_ble_eq_true rfl) rfl rfl ?_
      exact h
    · have h := h.1 (Classical.not_not.mp hc)
      refine ax_mv 2 76 [some (.ref 222), some (ax_i x1), some (ax_i x2), some (ax_i x3), y4, y5] [ax_i 1] rfl ?_
      refine ax_sti (i := 0) (k := 4) (n := 2) (pc' := 78) (L' := [some (.ref 222), some (ax_i x1), some (ax_i x2), some (ax_i x3), some (ax_i 1), y5]) ⟨_, rfl⟩ rfl rfl rfl (Nat.le_of_ble_eq_true rfl) rfl rfl ?_
      refine ax_mv 1 79 [some (.ref 222), some (ax_i x1), some (ax_i x2), some (ax_i x3), some (ax_i 1), y5] [ax_i 0] rfl ?_
      refine ax_sti (i := 0) (k := 5) (n := 2) (pc' := 81) (L' := [some (.ref 222), some (ax_i x1), some (ax_i x2), some (ax_i x3), some (ax_i 1), some (ax_i 0)]) ⟨_, rfl⟩ rfl rfl rfl (Nat.le_of_ble_eq_true rfl) rfl rfl ?_
      exact h
set_option maxRecDepth 20000 in
theorem r_Model_findOrder_81 {d : Nat} {V : ax_V} {Φ : ax_V → Prop} {Θ : ax_V → Prop} {x1 : Int} {x2 : Int} {x3 : Int} {x4 : Int} {x5 : Int} (hg : ax_g V) (hx1 : ax_rg x1) (hx2 : ax_rg x2) (hx3 : ax_rg x3) (hx4 : ax_rg x4) (hx5 : ax_rg x5) (h : ((26 ≤ x5 → k_Model_findOrder_131 d x1 x2 x3 x4 (some (ax_i x5)) V Φ Θ) ∧ (x5 < 26 → ((x4 = 0 → k_Model_findOrder_131 d x1 x2 x3 x4 (some (ax_i x5)) V Φ Θ) ∧ (¬ x4 = 0 → (0 ≤ x5 ∧ x5 < 26) ∧ ((V 286 x5 = 0 → (0 ≤ (26 * x3) + x5 ∧ (26 * x3) + x5 < 676) ∧ ((V 283 ((26 * x3) + x5) = 0 → k_Model_findOrder_81 d x1 x2 x3 1 (x5 + 1) V Φ Θ) ∧ (¬ V 283 ((26 * x3) + x5) = 0 → k_Model_findOrder_81 d x1 x2 x3 0 (x5 + 1) V Φ Θ))) ∧ (¬ V 286 x5 = 0 → k_Model_findOrder_81 d x1 x2 x3 1 (x5 + 1) V Φ Θ))))))) : k_Model_findOrder_81 d x1 x2 x3 x4 x5 V Φ Θ := by
  refine ax_mv 1 83 [some (.ref 222), some (ax_i x1), some (ax_i x2), some (ax_i x3), some (ax_i x4), some (ax_i x5)] [ax_i x5] rfl ?_
  refine ax_bip (pc' := 85) ⟨_, rfl⟩ (by decide) rfl ?_
  refine ax_if2 (p1 := 131) (p2 := 88) ⟨_, rfl⟩ (by decide) rfl hx5 (by decide) (fun hc => ?_) (fun hc => ?_)
  · have h := h.1 hc
    exact h
  · have h := h.2 (Int.not_le.mp hc)
    refine ax_mv 1 90 [some (.ref 222), some (ax_i x1), some (ax_i x2), some (ax_i x3), some (ax_i x4), some (ax_i x5)] [ax_i x4] rfl ?_
    refine ax_if (p1 := 131) (p2 := 93) ⟨_, rfl⟩ (by decide) rfl hx4 (fun hc => ?_) (fun hc => ?_)
    · have h := h.1 hc
      exact h
    · have h := h.2 hc
      refine ax_mv 1 94 [some (.ref 222), some (ax_i x1), some (ax_i x2), some (ax_i x3), some (ax_i x4), some (ax_i x5)] [.ref 222] rfl ?_
      refine ax_gR (v := .ref 286) (pc' := 97) ⟨_, rfl⟩ fl_12_200 ay_222 rfl rfl ?_
      refine ax_mv 1 99 [some (.ref 222), some (ax_i x1), some (ax_i x2), some (ax_i x3), some (ax_i x4), some (ax_i x5)] [ax_i x5, .ref 286] rfl ?_
      obtain ⟨o5, h⟩ := h
      refine ax_bld (n := 26) (pc' := 100) ⟨_, rfl⟩ ay_286 (by decide) o5 rfl ?_
      refine ax_if (p1 := 118) (p2 := 103) ⟨_, rfl⟩ (by decide) rfl (hg _ _) (fun hc => ?_) (fun hc => ?_)
      · have h := h.2 hc
        refine ax_mv 2 123 [some (.ref 222), some (ax_i x1), some (ax_i x2), some (ax_i x3), some (ax_i x4), some (ax_i x5)] [ax_i 1] rfl ?_
        refine ax_sti (i := 0) (k := 4) (n := 2) (pc' := 125) (L' := [some (.ref 222), some (ax_i x1), some (ax_i x2), some (ax_i x3), some (ax_i 1), some (ax_i x5)]) ⟨_, rfl⟩ rfl rfl rfl (Nat.le_of_ble_eq_true rfl) rfl rfl ?_
        refine ax_inc (x := x5) (pc' := 128) (L' := [some (.ref 222), some (ax_i x1), some (ax_i x2), some (ax_i x3), some (ax_i 1), some (ax_i (x5 + 1))]) ⟨_, rfl⟩ rfl rfl rfl rfl ?_
        refine ax_mv 1 81 [some (.ref 222), some (ax_i x1), some (ax_i x2), some (ax_i x3), some (ax_i 1), some (ax_i (x5 + 1))] [] rfl ?_
        exact h
      · have h := h.1 (Classical.not_not.mp hc)
        refine ax_mv 1 104 [some (.ref 222), some (ax_i x1), some (ax_i x2), some (ax_i x3), some (ax_i x4), some (ax_i x5)] [.ref 222] rfl ?_
        refine ax_gR (v := .ref 283) (pc' := 107) ⟨_, rfl⟩ fl_12_191 ay_222 rfl rfl ?_
        refine ax_bip (pc' := 109) ⟨_, rfl⟩ (by decide) rfl ?_
        refine ax_mv 1 110 [some (.ref 222), some (ax_i x1), some (ax_i x2), some (ax_i x3), some (ax_i x4), some (ax_i x5)] [ax_i x3, ax_i 26, .ref 283] rfl ?_
        refine ax_mul (pc' := 111) ⟨_, rfl⟩ rfl ?_
        refine ax_mv 1 113 [some (.ref 222), some (ax_i x1), some (ax_i x2), some (ax_i x3), some (ax_i x4), some (ax_i x5)] [ax_i x5, ax_i (26 * x3), .ref 283] rfl ?_
        refine ax_add (pc' := 114) ⟨_, rfl⟩ rfl ?_
        obtain ⟨o6, h⟩ := h
        refine ax_bld (n := 676) (pc' := 115) ⟨_, rfl⟩ ay_283 (by decide) o6 rfl ?_
        refine ax_if (p1 := 122) (p2 := 118) ⟨_, rfl⟩ (by decide) rfl (hg _ _) (fun hc => ?_) (fun hc => ?_)
        · have h := h.2 hc
          refine ax_mv 1 123 [some (.ref 222), some (ax_i x1), some (ax_i x2), some (ax_i x3), some (ax_i x4), some (ax_i x5)] [ax_i 0] rfl ?_
          refine ax_sti (i := 0) (k := 4) (n := 2) (pc' := 125) (L' := [some (.ref 222), some (ax_i x1), some (ax_i x2), some (ax_i x3), some (ax_i 0), some (ax_i x5)]) ⟨_, rfl⟩ rfl rfl rfl (Nat.le_of_ble_eq_true rfl) rfl rfl ?_
          refine ax_inc (x := x5) (pc' := 128) (L' := [some (.ref 222), some (ax_i x1), some (ax_i x2), some (ax_i x3), some (ax_i 0), some (ax_i (x5 + 1))]) ⟨_, rfl⟩ rfl rfl rfl rfl ?_
          refine ax_mv 1 81 [some (.ref 222), some (ax_i x1), some (ax_i x2), some (ax_i x3), some (ax_i 0), some (ax_i (x5 + 1))] [] rfl ?_
          exact h
        · have h := h.1 (Classical.not_not.mp hc)
          refine ax_mv 2 123 [some (.ref 222), some (ax_i x1), some (ax_i x2), some (ax_i x3), some (ax_i x4), some (ax_i x5)] [ax_i 1] rfl ?_
          refine ax_sti (i := 0) (k := 4) (n := 2) (pc' := 125) (L' := [some (.ref 222), some (ax_i x1), some (ax_i x2), some (ax_i x3), some (ax_i 1), some (ax_i x5)]) ⟨_, rfl⟩ rfl rfl rfl (Nat.le_of_ble_eq_true rfl) rfl rfl ?_
          refine ax_inc (x := x5) (pc' := 128) (L' := [some (.ref 222), some (ax_i x1), some (ax_i x2), some (ax_i x3), some (ax_i 1), some (ax_i (x5 + 1))]) ⟨_, rfl⟩ rfl rfl rfl rfl ?_
          refine ax_mv 1 81 [some (.ref 222), some (ax_i x1), some (ax_i x2), some (ax_i x3), some (ax_i 1), some (ax_i (x5 + 1))] [] rfl ?_
          exact h
set_option maxRecDepth 20000 in
theorem r_Model_findOrder_131 {d : Nat} {V : ax_V} {Φ : ax_V → Prop} {Θ : ax_V → Prop} {x1 : Int} {x2 : Int} {x3 : Int} {x4 : Int} {y5 : Option Value} (hg : ax_g V) (hx1 : ax_rg x1) (hx2 : ax_rg x2) (hx3 : ax_rg x3) (hx4 : ax_rg x4) (hy5 : ax_y y5) (h : ((x4 = 0 → k_Model_findOrder_56 d x1 x2 (x3 + 1) (some (ax_i x4)) y5 V Φ Θ) ∧ (¬ x4 = 0 → (0 ≤ x3 ∧ x3 < 26) ∧ (∀ V1, V1 = ax_u V 286 x3 1 → (0 ≤ x1 ∧ x1 < 9) ∧ (0 ≤ (26 * x1) + (V1 284 x1) ∧ (26 * x1) + (V1 284 x1) < 240) ∧ (∀ V2, V2 = ax_u V1 285 ((26 * x1) + (V1 284 x1)) x3 → (0 ≤ x1 ∧ x1 < 9) ∧ (0 ≤ x1 ∧ x1 < 9) ∧ ax_rg ((V2 284 x1) + 1) ∧ (∀ V3, V3 = ax_u V2 284 x1 ((V2 284 x1) + 1) → k_Model_findOrder_56 d x1 1 (x3 + 1) (some (ax_i x4)) y5 V3 Φ Θ)))))) : k_Model_findOrder_131 d x1 x2 x3 x4 y5 V Φ Θ := by
  refine ax_mv 1 133 [some (.ref 222), some (ax_i x1), some (ax_i x2), some (ax_i x3), some (ax_i x4), y5] [ax_i x4] rfl ?_
  refine ax_if (p1 := 139) (p2 := 136) ⟨_, rfl⟩ (by decide) rfl hx4 (fun hc => ?_) (fun hc => ?_)
  · have h := h.2 hc
    refine ax_mv 1 140 [some (.ref 222), some (ax_i x1), some (ax_i x2), some (ax_i x3), some (ax_i x4), y5] [.ref 222] rfl ?_
    refine ax_gR (v := .ref 286) (pc' := 143) ⟨_, rfl⟩ fl_12_200 ay_222 rfl rfl ?_
    refine ax_mv 2 145 [some (.ref 222), some (ax_i x1), some (ax_i x2), some (ax_i x3), some (ax_i x4), y5] [ax_i 1, ax_i x3, .ref 286] rfl ?_
    obtain ⟨o7, h⟩ := h
    obtain ⟨V1, eV1⟩ : ∃ W9 : ax_V, W9 = ax_u V 286 x3 1 := ⟨_, rfl⟩
    have h := h V1 eV1
    have hg1 : ax_g V1 := eV1 ▸ ax_u_g hg (by decide)
    refine ax_bst (n := 26) (pc' := 146) ⟨_, rfl⟩ ay_ok ay_286 (by decide) o7 (by decide) eV1 rfl ?_
    refine ax_mv 1 147 [some (.ref 222), some (ax_i x1), some (ax_i x2), some (ax_i x3), some (ax_i x4), y5] [.ref 222] rfl ?_
    refine ax_gR (v := .ref 285) (pc' := 150) ⟨_, rfl⟩ fl_12_197 ay_222 rfl rfl ?_
    refine ax_bip (pc' := 152) ⟨_, rfl⟩ (by decide) rfl ?_
    refine ax_mv 1 153 [some (.ref 222), some (ax_i x1), some (ax_i x2), some (ax_i x3), some (ax_i x4), y5] [ax_i x1, ax_i 26, .ref 285] rfl ?_
    refine ax_mul (pc' := 154) ⟨_, rfl⟩ rfl ?_
    refine ax_mv 1 155 [some (.ref 222), some (ax_i x1), some (ax_i x2), some (ax_i x3), some (ax_i x4), y5] [.ref 222, ax_i (26 * x1), .ref 285] rfl ?_
    refine ax_gR (v := .ref 284) (pc' := 158) ⟨_, rfl⟩ fl_12_194 ay_222 rfl rfl ?_
    refine ax_mv 1 159 [some (.ref 222), some (ax_i x1), some (ax_i x2), some (ax_i x3), some (ax_i x4), y5] [ax_i x1, .ref 284, ax_i (26 * x1), .ref 285] rfl ?_
    obtain ⟨o8, h⟩ := h
    refine ax_ild (n := 9) (pc' := 160) ⟨_, rfl⟩ ay_284 (by decide) o8 rfl ?_
    refine ax_add (pc' := 161) ⟨_, rfl⟩ rfl ?_
    refine ax_mv 1 162 [some (.ref 222), some (ax_i x1), some (ax_i x2), some (ax_i x3), some (ax_i x4), y5] [ax_i x3, ax_i ((26 * x1) + (V1 284 x1)), .ref 285] rfl ?_
    obtain ⟨o9, h⟩ := h
    obtain ⟨V2, eV2⟩ : ∃ W9 : ax_V, W9 = ax_u V1 285 ((26 * x1) + (V1 284 x1)) x3 := ⟨_, rfl⟩
    have h := h V2 eV2
    have hg2 : ax_g V2 := eV2 ▸ ax_u_g hg1 hx3
    refine ax_ist (n := 240) (pc' := 163) ⟨_, rfl⟩ ay_ok ay_285 (by decide) o9 eV2 rfl ?_
    refine ax_mv 1 164 [some (.ref 222), some (ax_i x1), some (ax_i x2), some (ax_i x3), some (ax_i x4), y5] [.ref 222] rfl ?_
    refine ax_gR (v := .ref 284) (pc' := 167) ⟨_, rfl⟩ fl_12_194 ay_222 rfl rfl ?_
    refine ax_mv 2 169 [some (.ref 222), some (ax_i x1), some (ax_i x2), some (ax_i x3), some (ax_i x4), y5] [ax_i x1, .ref 284, ax_i x1, .ref 284] rfl ?_
    obtain ⟨o10, h⟩ := h
    refine ax_ild (n := 9) (pc' := 170) ⟨_, rfl⟩ ay_284 (by decide) o10 rfl ?_
    refine ax_mv 1 171 [some (.ref 222), some (ax_i x1), some (ax_i x2), some (ax_i x3), some (ax_i x4), y5] [ax_i 1, ax_i (V2 284 x1), ax_i x1, .ref 284] rfl ?_
    refine ax_add (pc' := 172) ⟨_, rfl⟩ rfl ?_
    obtain ⟨o11, o12, h⟩ := h
    obtain ⟨V3, eV3⟩ : ∃ W9 : ax_V, W9 = ax_u V2 284 x1 ((V2 284 x1) + 1) := ⟨_, rfl⟩
    have h := h V3 eV3
    have hg3 : ax_g V3 := eV3 ▸ ax_u_g hg2 o12
    refine ax_ist (n := 9) (pc' := 173) ⟨_, rfl⟩ ay_ok ay_284 (by decide) o11 eV3 rfl ?_
    refine ax_mv 1 174 [some (.ref 222), some (ax_i x1), some (ax_i x2), some (ax_i x3), some (ax_i x4), y5] [ax_i 1] rfl ?_
    refine ax_sti (i := 0) (k := 2) (n := 1) (pc' := 175) (L' := [some (.ref 222), some (ax_i x1), some (ax_i 1), some (ax_i x3), some (ax_i x4), y5]) ⟨_, rfl⟩ rfl rfl rfl (Nat.le_of_ble_eq_true rfl) rfl rfl ?_
    refine ax_inc (x := x3) (pc' := 178) (L' := [some (.ref 222), some (ax_i x1), some (ax_i 1), some (ax_i (x3 + 1)), some (ax_i x4), y5]) ⟨_, rfl⟩ rfl rfl rfl rfl ?_
    refine ax_mv 1 56 [some (.ref 222), some (ax_i x1), some (ax_i 1), some (ax_i (x3 + 1)), some (ax_i x4), y5] [] rfl ?_
    exact h
  · have h := h.1 (Classical.not_not.mp hc)
    refine ax_mv 1 175 [some (.ref 222), some (ax_i x1), some (ax_i x2), some (ax_i x3), some (ax_i x4), y5] [] rfl ?_
    refine ax_inc (x := x3) (pc' := 178) (L' := [some (.ref 222), some (ax_i x1), some (ax_i x2), some (ax_i (x3 + 1)), some (ax_i x4), y5]) ⟨_, rfl⟩ rfl rfl rfl rfl ?_
    refine ax_mv 1 56 [some (.ref 222), some (ax_i x1), some (ax_i x2), some (ax_i (x3 + 1)), some (ax_i x4), y5] [] rfl ?_
    exact h
set_option maxRecDepth 20000 in
theorem r_Model_findOrder {d : Nat} {V : ax_V} {Φ : ax_V → Prop} {Θ : ax_V → Prop} {x1 : Int} (hg : ax_g V) (hx1 : ax_rg x1) (h : (0 ≤ x1 ∧ x1 < 9) ∧ (∀ V1, V1 = ax_u V 284 x1 0 → k_Model_findOrder_9 d x1 0 none none none V1 Φ Θ)) : ax_N ay_lay (d + 1) q_Model_findOrder [.ref 222, ax_i x1] V Φ Θ := by
  refine ax_T.of (M := m_Model_findOrder) rfl (Nat.le_of_ble_eq_true rfl) ?_
  refine ax_mv 0 0 [some (.ref 222), some (ax_i x1), none, none, none, none] [] rfl ?_
  refine ax_mv 1 1 [some (.ref 222), some (ax_i x1), none, none, none, none] [.ref 222] rfl ?_
  refine ax_gR (v := .ref 284) (pc' := 4) ⟨_, rfl⟩ fl_12_194 ay_222 rfl rfl ?_
  refine ax_mv 2 6 [some (.ref 222), some (ax_i x1), none, none, none, none] [ax_i 0, ax_i x1, .ref 284] rfl ?_
  obtain ⟨o13, h⟩ := h
  obtain ⟨V1, eV1⟩ : ∃ W9 : ax_V, W9 = ax_u V 284 x1 0 := ⟨_, rfl⟩
  have h := h V1 eV1
  have hg1 : ax_g V1 := eV1 ▸ ax_u_g hg (by decide)
  refine ax_ist (n := 9) (pc' := 7) ⟨_, rfl⟩ ay_ok ay_284 (by decide) o13 eV1 rfl ?_
  refine ax_mv 1 8 [some (.ref 222), some (ax_i x1), none, none, none, none] [ax_i 0] rfl ?_
  refine ax_sti (i := 0) (k := 2) (n := 1) (pc' := 9) (L' := [some (.ref 222), some (ax_i x1), some (ax_i 0), none, none, none]) ⟨_, rfl⟩ rfl rfl rfl (Nat.le_of_ble_eq_true rfl) rfl rfl ?_
  exact h
abbrev k_Model_settleClocks_2 (d : Nat) (x1 : Int) (y2 : Option Value) (V : ax_V) (Φ : ax_V → Prop) (Θ : ax_V → Prop) : Prop := ax_R ay_lay ax_t d m_Model_settleClocks 2 [some (.ref 222), some (ax_i x1), y2] [] V (ax_Nr Φ) Θ
abbrev k_Model_settleClocks_33 (d : Nat) (x1 : Int) (y2 : Option Value) (V : ax_V) (Φ : ax_V → Prop) (Θ : ax_V → Prop) : Prop := ax_R ay_lay ax_t d m_Model_settleClocks 33 [some (.ref 222), some (ax_i x1), y2] [] V (ax_Nr Φ) Θ
abbrev k_Model_settleClocks_65 (d : Nat) (x1 : Int) (y2 : Option Value) (V : ax_V) (Φ : ax_V → Prop) (Θ : ax_V → Prop) : Prop := ax_R ay_lay ax_t d m_Model_settleClocks 65 [some (.ref 222), some (ax_i x1), y2] [] V (ax_Nr Φ) Θ
abbrev k_Model_settleClocks_181 (d : Nat) (x1 : Int) (x2 : Int) (V : ax_V) (Φ : ax_V → Prop) (Θ : ax_V → Prop) : Prop := ax_R ay_lay ax_t d m_Model_settleClocks 181 [some (.ref 222), some (ax_i x1), some (ax_i x2)] [] V (ax_Nr Φ) Θ
set_option maxRecDepth 20000 in
theorem r_Model_settleClocks_2 {d : Nat} {V : ax_V} {Φ : ax_V → Prop} {Θ : ax_V → Prop} {x1 : Int} {y2 : Option Value} (hg : ax_g V) (hx1 : ax_rg x1) (hy2 : ax_y y2) (h : ((V 222 44 ≤ x1 → k_Model_settleClocks_33 d 0 y2 V Φ Θ) ∧ (x1 < V 222 44 → (0 ≤ x1 ∧ x1 < 351) ∧ ax_I ay_lay d q_Model_eqClock [.ref 222, ax_i x1] V (fun r1 V1 => ax_N ay_lay d q_Model_free [.ref 222, ax_i (V 262 x1), ax_i r1] V1 (fun V2 => k_Model_settleClocks_2 d (x1 + 1) y2 V2 Φ Θ) Θ) Θ))) : k_Model_settleClocks_2 d x1 y2 V Φ Θ := by
  refine ax_mv 2 4 [some (.ref 222), some (ax_i x1), y2] [.ref 222, ax_i x1] rfl ?_
  refine ax_gI (kI := 44) (pc' := 7) ⟨_, rfl⟩ fl_12_414 ay_222 rfl rfl rfl ?_
  refine ax_if2 (p1 := 31) (p2 := 10) ⟨_, rfl⟩ (by decide) rfl hx1 (hg _ _) (fun hc => ?_) (fun hc => ?_)
  · have h := h.1 hc
    refine ax_mv 1 32 [some (.ref 222), some (ax_i x1), y2] [ax_i 0] rfl ?_
    refine ax_sti (i := 0) (k := 1) (n := 1) (pc' := 33) (L' := [some (.ref 222), some (ax_i 0), y2]) ⟨_, rfl⟩ rfl rfl rfl (Nat.le_of_ble_eq_true rfl) rfl rfl ?_
    exact h
  · have h := h.2 (Int.not_le.mp hc)
    refine ax_mv 2 12 [some (.ref 222), some (ax_i x1), y2] [.ref 222, .ref 222] rfl ?_
    refine ax_gR (v := .ref 262) (pc' := 15) ⟨_, rfl⟩ fl_12_128 ay_222 rfl rfl ?_
    refine ax_mv 1 16 [some (.ref 222), some (ax_i x1), y2] [ax_i x1, .ref 262, .ref 222] rfl ?_
    obtain ⟨o1, h⟩ := h
    refine ax_ild (n := 351) (pc' := 17) ⟨_, rfl⟩ ay_262 (by decide) o1 rfl ?_
    refine ax_mv 2 19 [some (.ref 222), some (ax_i x1), y2] [ax_i x1, .ref 222, ax_i (V 262 x1), .ref 222] rfl ?_
    refine ax_callI (pc' := 22) ⟨_, rfl⟩ ml_12_500 (rest := [ax_i (V 262 x1), .ref 222]) rfl (fun ss hs => ⟨_, _, ay_222 ss hs⟩) (Nat.le_of_ble_eq_true rfl) rfl rfl h (fun r1 V1 hg1 hr1 h => ?_)
    refine ax_callN (pc' := 25) ⟨_, rfl⟩ ml_12_591 (rest := []) rfl (fun ss hs => ⟨_, _, ay_222 ss hs⟩) (Nat.le_of_ble_eq_true rfl) rfl rfl h (fun V2 hg2 h => ?_)
    refine ax_inc (x := x1) (pc' := 28) (L' := [some (.ref 222), some (ax_i (x1 + 1)), y2]) ⟨_, rfl⟩ rfl rfl rfl rfl ?_
    refine ax_mv 1 2 [some (.ref 222), some (ax_i (x1 + 1)), y2] [] rfl ?_
    exact h
set_option maxRecDepth 20000 in
theorem r_Model_settleClocks_33 {d : Nat} {V : ax_V} {Φ : ax_V → Prop} {Θ : ax_V → Prop} {x1 : Int} {y2 : Option Value} (hg : ax_g V) (hx1 : ax_rg x1) (hy2 : ax_y y2) (h : ((V 222 60 ≤ x1 → k_Model_settleClocks_65 d ((V 222 26) - 1) y2 V Φ Θ) ∧ (x1 < V 222 60 → (0 ≤ x1 ∧ x1 < 351) ∧ ax_N ay_lay d q_Model_free [.ref 222, ax_i (V 277 x1), ax_i 0] V (fun V1 => k_Model_settleClocks_33 d (x1 + 1) y2 V1 Φ Θ) Θ))) : k_Model_settleClocks_33 d x1 y2 V Φ Θ := by
  refine ax_mv 2 35 [some (.ref 222), some (ax_i x1), y2] [.ref 222, ax_i x1] rfl ?_
  refine ax_gI (kI := 60) (pc' := 38) ⟨_, rfl⟩ fl_12_420 ay_222 rfl rfl rfl ?_
  refine ax_if2 (p1 := 58) (p2 := 41) ⟨_, rfl⟩ (by decide) rfl hx1 (hg _ _) (fun hc => ?_) (fun hc => ?_)
  · have h := h.1 hc
    refine ax_mv 1 59 [some (.ref 222), some (ax_i x1), y2] [.ref 222] rfl ?_
    refine ax_gI (kI := 26) (pc' := 62) ⟨_, rfl⟩ fl_12_317 ay_222 rfl rfl rfl ?_
    refine ax_mv 1 63 [some (.ref 222), some (ax_i x1), y2] [ax_i 1, ax_i (V 222 26)] rfl ?_
    refine ax_sub (pc' := 64) ⟨_, rfl⟩ rfl ?_
    refine ax_sti (i := 0) (k := 1) (n := 1) (pc' := 65) (L' := [some (.ref 222), some (ax_i ((V 222 26) - 1)), y2]) ⟨_, rfl⟩ rfl rfl rfl (Nat.le_of_ble_eq_true rfl) rfl rfl ?_
    exact h
  · have h := h.2 (Int.not_le.mp hc)
    refine ax_mv 2 43 [some (.ref 222), some (ax_i x1), y2] [.ref 222, .ref 222] rfl ?_
    refine ax_gR (v := .ref 277) (pc' := 46) ⟨_, rfl⟩ fl_12_173 ay_222 rfl rfl ?_
    refine ax_mv 1 47 [some (.ref 222), some (ax_i x1), y2] [ax_i x1, .ref 277, .ref 222] rfl ?_
    obtain ⟨o2, h⟩ := h
    refine ax_ild (n := 351) (pc' := 48) ⟨_, rfl⟩ ay_277 (by decide) o2 rfl ?_
    refine ax_mv 1 49 [some (.ref 222), some (ax_i x1), y2] [ax_i 0, ax_i (V 277 x1), .ref 222] rfl ?_
    refine ax_callN (pc' := 52) ⟨_, rfl⟩ ml_12_591 (rest := []) rfl (fun ss hs => ⟨_, _, ay_222 ss hs⟩) (Nat.le_of_ble_eq_true rfl) rfl rfl h (fun V1 hg1 h => ?_)
    refine ax_inc (x := x1) (pc' := 55) (L' := [some (.ref 222), some (ax_i (x1 + 1)), y2]) ⟨_, rfl⟩ rfl rfl rfl rfl ?_
    refine ax_mv 1 33 [some (.ref 222), some (ax_i (x1 + 1)), y2] [] rfl ?_
    exact h
set_option maxRecDepth 20000 in
theorem r_Model_settleClocks_65 {d : Nat} {V : ax_V} {Φ : ax_V → Prop} {Θ : ax_V → Prop} {x1 : Int} {y2 : Option Value} (hg : ax_g V) (hx1 : ax_rg x1) (hy2 : ax_y y2) (h : ((x1 < 0 → Φ V) ∧ (0 ≤ x1 → (0 ≤ x1 ∧ x1 < 701) ∧ ((V 241 x1 = 20 → (0 ≤ x1 ∧ x1 < 701) ∧ (0 ≤ x1 ∧ x1 < 701) ∧ (0 ≤ x1 ∧ x1 < 701) ∧ ax_I ay_lay d q_Model_clockOf [.ref 222, ax_i (V 250 x1), ax_i (V 248 x1)] V (fun r6 V6 => ax_N ay_lay d q_Model_free [.ref 222, ax_i (V 245 x1), ax_i r6] V6 (fun V7 => k_Model_settleClocks_65 d (x1 + (-1)) y2 V7 Φ Θ) Θ) Θ) ∧ (¬ V 241 x1 = 20 → (0 ≤ x1 ∧ x1 < 701) ∧ ((V 241 x1 = 21 → (0 ≤ x1 ∧ x1 < 701) ∧ (0 ≤ x1 ∧ x1 < 701) ∧ ax_N ay_lay d q_Model_free [.ref 222, ax_i (V 245 x1), ax_i ((2 * (V 248 x1)) + 1)] V (fun V4 => (0 ≤ x1 ∧ x1 < 701) ∧ (0 ≤ x1 ∧ x1 < 701) ∧ ax_N ay_lay d q_Model_free [.ref 222, ax_i (V4 246 x1), ax_i ((2 * (V4 248 x1)) + 2)] V4 (fun V5 => k_Model_settleClocks_65 d (x1 + (-1)) y2 V5 Φ Θ) Θ) Θ) ∧ (¬ V 241 x1 = 21 → (0 ≤ x1 ∧ x1 < 701) ∧ ((V 241 x1 = 22 → (0 ≤ x1 ∧ x1 < 701) ∧ k_Model_settleClocks_181 d x1 (V 245 x1) V Φ Θ) ∧ (¬ V 241 x1 = 22 → (0 ≤ x1 ∧ x1 < 701) ∧ (0 ≤ x1 ∧ x1 < 701) ∧ ax_N ay_lay d q_Model_free [.ref 222, ax_i (V 245 x1), ax_i (V 254 x1)] V (fun V1 => (0 ≤ x1 ∧ x1 < 701) ∧ (0 ≤ x1 ∧ x1 < 701) ∧ ax_N ay_lay d q_Model_free [.ref 222, ax_i (V1 246 x1), ax_i (V1 254 x1)] V1 (fun V2 => (0 ≤ x1 ∧ x1 < 701) ∧ (0 ≤ x1 ∧ x1 < 701) ∧ ax_N ay_lay d q_Model_free [.ref 222, ax_i (V2 247 x1), ax_i (V2 254 x1)] V2 (fun V3 => k_Model_settleClocks_65 d (x1 + (-1)) y2 V3 Φ Θ) Θ) Θ) Θ))))))))) : k_Model_settleClocks_65 d x1 y2 V Φ Θ := by
  refine ax_mv 1 66 [some (.ref 222), some (ax_i x1), y2] [ax_i x1] rfl ?_
  refine ax_if (p1 := 264) (p2 := 69) ⟨_, rfl⟩ (by decide) rfl hx1 (fun hc => ?_) (fun hc => ?_)
  · have h := h.1 hc
    exact ax_nret ⟨_, rfl⟩ rfl hg h
  · have h := h.2 (Int.not_lt.mp hc)
    refine ax_mv 1 70 [some (.ref 222), some (ax_i x1), y2] [.ref 222] rfl ?_
    refine ax_gR (v := .ref 241) (pc' := 73) ⟨_, rfl⟩ fl_12_65 ay_222 rfl rfl ?_
    refine ax_mv 1 74 [some (.ref 222), some (ax_i x1), y2] [ax_i x1, .ref 241] rfl ?_
    obtain ⟨o3, h⟩ := h
    refine ax_ild (n := 701) (pc' := 75) ⟨_, rfl⟩ ay_241 (by decide) o3 rfl ?_
    refine ax_bip (pc' := 77) ⟨_, rfl⟩ (by decide) rfl ?_
    refine ax_if2 (p1 := 109) (p2 := 80) ⟨_, rfl⟩ (by decide) rfl (hg _ _) (by decide) (fun hc => ?_) (fun hc => ?_)
    · have h := h.2 hc
      refine ax_mv 1 110 [some (.ref 222), some (ax_i x1), y2] [.ref 222] rfl ?_
      refine ax_gR (v := .ref 241) (pc' := 113) ⟨_, rfl⟩ fl_12_65 ay_222 rfl rfl ?_
      refine ax_mv 1 114 [some (.ref 222), some (ax_i x1), y2] [ax_i x1, .ref 241] rfl ?_
      obtain ⟨o4, h⟩ := h
      refine ax_ild (n := 701) (pc' := 115) ⟨_, rfl⟩ ay_241 (by decide) o4 rfl ?_
      refine ax_bip (pc' := 117) ⟨_, rfl⟩ (by decide) rfl ?_
      refine ax_if2 (p1 := 163) (p2 := 120) ⟨_, rfl⟩ (by decide) rfl (hg _ _) (by decide) (fun hc => ?_) (fun hc => ?_)
      · have h := h.2 hc
        refine ax_mv 1 164 [some (.ref 222), some (ax_i x1), y2] [.ref 222] rfl ?_
        refine ax_gR (v := .ref 241) (pc' := 167) ⟨_, rfl⟩ fl_12_65 ay_222 rfl rfl ?_
        refine ax_mv 1 168 [some (.ref 222), some (ax_i x1), y2] [ax_i x1, .ref 241] rfl ?_
        obtain ⟨o5, h⟩ := h
        refine ax_ild (n := 701) (pc' := 169) ⟨_, rfl⟩ ay_241 (by decide) o5 rfl ?_
        refine ax_bip (pc' := 171) ⟨_, rfl⟩ (by decide) rfl ?_
        refine ax_if2 (p1 := 210) (p2 := 174) ⟨_, rfl⟩ (by decide) rfl (hg _ _) (by decide) (fun hc => ?_) (fun hc => ?_)
        · have h := h.2 hc
          refine ax_mv 2 212 [some (.ref 222), some (ax_i x1), y2] [.ref 222, .ref 222] rfl ?_
          refine ax_gR (v := .ref 245) (pc' := 215) ⟨_, rfl⟩ fl_12_77 ay_222 rfl rfl ?_
          refine ax_mv 1 216 [some (.ref 222), some (ax_i x1), y2] [ax_i x1, .ref 245, .ref 222] rfl ?_
          obtain ⟨o6, h⟩ := h
          refine ax_ild (n := 701) (pc' := 217) ⟨_, rfl⟩ ay_245 (by decide) o6 rfl ?_
          refine ax_mv 1 218 [some (.ref 222), some (ax_i x1), y2] [.ref 222, ax_i (V 245 x1), .ref 222] rfl ?_
          refine ax_gR (v := .ref 254) (pc' := 221) ⟨_, rfl⟩ fl_12_104 ay_222 rfl rfl ?_
          refine ax_mv 1 222 [some (.ref 222), some (ax_i x1), y2] [ax_i x1, .ref 254, ax_i (V 245 x1), .ref 222] rfl ?_
          obtain ⟨o7, h⟩ := h
          refine ax_ild (n := 701) (pc' := 223) ⟨_, rfl⟩ ay_254 (by decide) o7 rfl ?_
          refine ax_callN (pc' := 226) ⟨_, rfl⟩ ml_12_591 (rest := []) rfl (fun ss hs => ⟨_, _, ay_222 ss hs⟩) (Nat.le_of_ble_eq_true rfl) rfl rfl h (fun V1 hg1 h => ?_)
          refine ax_mv 2 228 [some (.ref 222), some (ax_i x1), y2] [.ref 222, .ref 222] rfl ?_
          refine ax_gR (v := .ref 246) (pc' := 231) ⟨_, rfl⟩ fl_12_80 ay_222 rfl rfl ?_
          refine ax_mv 1 232 [some (.ref 222), some (ax_i x1), y2] [ax_i x1, .ref 246, .ref 222] rfl ?_
          obtain ⟨o8, h⟩ := h
          refine ax_ild (n := 701) (pc' := 233) ⟨_, rfl⟩ ay_246 (by decide) o8 rfl ?_
          refine ax_mv 1 234 [some (.ref 222), some (ax_i x1), y2] [.ref 222, ax_i (V1 246 x1), .ref 222] rfl ?_
          refine ax_gR (v := .ref 254) (pc' := 237) ⟨_, rfl⟩ fl_12_104 ay_222 rfl rfl ?_
          refine ax_mv 1 238 [some (.ref 222), some (ax_i x1), y2] [ax_i x1, .ref 254, ax_i (V1 246 x1), .ref 222] rfl ?_
          obtain ⟨o9, h⟩ := h
          refine ax_ild (n := 701) (pc' := 239) ⟨_, rfl⟩ ay_254 (by decide) o9 rfl ?_
          refine ax_callN (pc' := 242) ⟨_, rfl⟩ ml_12_591 (rest := []) rfl (fun ss hs => ⟨_, _, ay_222 ss hs⟩) (Nat.le_of_ble_eq_true rfl) rfl rfl h (fun V2 hg2 h => ?_)
          refine ax_mv 2 244 [some (.ref 222), some (ax_i x1), y2] [.ref 222, .ref 222] rfl ?_
          refine ax_gR (v := .ref 247) (pc' := 247) ⟨_, rfl⟩ fl_12_83 ay_222 rfl rfl ?_
          refine ax_mv 1 248 [some (.ref 222), some (ax_i x1), y2] [ax_i x1, .ref 247, .ref 222] rfl ?_
          obtain ⟨o10, h⟩ := h
          refine ax_ild (n := 701) (pc' := 249) ⟨_, rfl⟩ ay_247 (by decide) o10 rfl ?_
          refine ax_mv 1 250 [some (.ref 222), some (ax_i x1), y2] [.ref 222, ax_i (V2 247 x1), .ref 222] rfl ?_
          refine ax_gR (v := .ref 254) (pc' := 253) ⟨_, rfl⟩ fl_12_104 ay_222 rfl rfl ?_
          refine ax_mv 1 254 [some (.ref 222), some (ax_i x1), y2] [ax_i x1, .ref 254, ax_i (V2 247 x1), .ref 222] rfl ?_
          obtain ⟨o11, h⟩ := h
          refine ax_ild (n := 701) (pc' := 255) ⟨_, rfl⟩ ay_254 (by decide) o11 rfl ?_
          refine ax_callN (pc' := 258) ⟨_, rfl⟩ ml_12_591 (rest := []) rfl (fun ss hs => ⟨_, _, ay_222 ss hs⟩) (Nat.le_of_ble_eq_true rfl) rfl rfl h (fun V3 hg3 h => ?_)
          refine ax_inc (x := x1) (pc' := 261) (L' := [some (.ref 222), some (ax_i (x1 + (-1))), y2]) ⟨_, rfl⟩ rfl rfl rfl rfl ?_
          refine ax_mv 1 65 [some (.ref 222), some (ax_i (x1 + (-1))), y2] [] rfl ?_
          exact h
        · have h := h.1 (Classical.not_not.mp hc)
          refine ax_mv 1 175 [some (.ref 222), some (ax_i x1), y2] [.ref 222] rfl ?_
          refine ax_gR (v := .ref 245) (pc' := 178) ⟨_, rfl⟩ fl_12_77 ay_222 rfl rfl ?_
          refine ax_mv 1 179 [some (.ref 222), some (ax_i x1), y2] [ax_i x1, .ref 245] rfl ?_
          obtain ⟨o12, h⟩ := h
          refine ax_ild (n := 701) (pc' := 180) ⟨_, rfl⟩ ay_245 (by decide) o12 rfl ?_
          refine ax_sti (i := 0) (k := 2) (n := 1) (pc' := 181) (L' := [some (.ref 222), some (ax_i x1), some (ax_i (V 245 x1))]) ⟨_, rfl⟩ rfl rfl rfl (Nat.le_of_ble_eq_true rfl) rfl rfl ?_
          exact h
      · have h := h.1 (Classical.not_not.mp hc)
        refine ax_mv 2 122 [some (.ref 222), some (ax_i x1), y2] [.ref 222, .ref 222] rfl ?_
        refine ax_gR (v := .ref 245) (pc' := 125) ⟨_, rfl⟩ fl_12_77 ay_222 rfl rfl ?_
        refine ax_mv 1 126 [some (.ref 222), some (ax_i x1), y2] [ax_i x1, .ref 245, .ref 222] rfl ?_
        obtain ⟨o13, h⟩ := h
        refine ax_ild (n := 701) (pc' := 127) ⟨_, rfl⟩ ay_245 (by decide) o13 rfl ?_
        refine ax_mv 2 129 [some (.ref 222), some (ax_i x1), y2] [.ref 222, ax_i 2, ax_i (V 245 x1), .ref 222] rfl ?_
        refine ax_gR (v := .ref 248) (pc' := 132) ⟨_, rfl⟩ fl_12_86 ay_222 rfl rfl ?_
        refine ax_mv 1 133 [some (.ref 222), some (ax_i x1), y2] [ax_i x1, .ref 248, ax_i 2, ax_i (V 245 x1), .ref 222] rfl ?_
        obtain ⟨o14, h⟩ := h
        refine ax_ild (n := 701) (pc' := 134) ⟨_, rfl⟩ ay_248 (by decide) o14 rfl ?_
        refine ax_mul (pc' := 135) ⟨_, rfl⟩ rfl ?_
        refine ax_mv 1 136 [some (.ref 222), some (ax_i x1), y2] [ax_i 1, ax_i (2 * (V 248 x1)), ax_i (V 245 x1), .ref 222] rfl ?_
        refine ax_add (pc' := 137) ⟨_, rfl⟩ rfl ?_
        refine ax_callN (pc' := 140) ⟨_, rfl⟩ ml_12_591 (rest := []) rfl (fun ss hs => ⟨_, _, ay_222 ss hs⟩) (Nat.le_of_ble_eq_true rfl) rfl rfl h (fun V4 hg4 h => ?_)
        refine ax_mv 2 142 [some (.ref 222), some (ax_i x1), y2] [.ref 222, .ref 222] rfl ?_
        refine ax_gR (v := .ref 246) (pc' := 145) ⟨_, rfl⟩ fl_12_80 ay_222 rfl rfl ?_
        refine ax_mv 1 146 [some (.ref 222), some (ax_i x1), y2] [ax_i x1, .ref 246, .ref 222] rfl ?_
        obtain ⟨o15, h⟩ := h
        refine ax_ild (n := 701) (pc' := 147) ⟨_, rfl⟩ ay_246 (by decide) o15 rfl ?_
        refine ax_mv 2 149 [some (.ref 222), some (ax_i x1), y2] [.ref 222, ax_i 2, ax_i (V4 246 x1), .ref 222] rfl ?_
        refine ax_gR (v := .ref 248) (pc' := 152) ⟨_, rfl⟩ fl_12_86 ay_222 rfl rfl ?_
        refine ax_mv 1 153 [some (.ref 222), some (ax_i x1), y2] [ax_i x1, .ref 248, ax_i 2, ax_i (V4 246 x1), .ref 222] rfl ?_
        obtain ⟨o16, h⟩ := h
        refine ax_ild (n := 701) (pc' := 154) ⟨_, rfl⟩ ay_248 (by decide) o16 rfl ?_
        refine ax_mul (pc' := 155) ⟨_, rfl⟩ rfl ?_
        refine ax_mv 1 156 [some (.ref 222), some (ax_i x1), y2] [ax_i 2, ax_i (2 * (V4 248 x1)), ax_i (V4 246 x1), .ref 222] rfl ?_
        refine ax_add (pc' := 157) ⟨_, rfl⟩ rfl ?_
        refine ax_callN (pc' := 160) ⟨_, rfl⟩ ml_12_591 (rest := []) rfl (fun ss hs => ⟨_, _, ay_222 ss hs⟩) (Nat.le_of_ble_eq_true rfl) rfl rfl h (fun V5 hg5 h => ?_)
        refine ax_mv 1 258 [some (.ref 222), some (ax_i x1), y2] [] rfl ?_
        refine ax_inc (x := x1) (pc' := 261) (L' := [some (.ref 222), some (ax_i (x1 + (-1))), y2]) ⟨_, rfl⟩ rfl rfl rfl rfl ?_
        refine ax_mv 1 65 [some (.ref 222), some (ax_i (x1 + (-1))), y2] [] rfl ?_
        exact h
    · have h := h.1 (Classical.not_not.mp hc)
      refine ax_mv 2 82 [some (.ref 222), some (ax_i x1), y2] [.ref 222, .ref 222] rfl ?_
      refine ax_gR (v := .ref 245) (pc' := 85) ⟨_, rfl⟩ fl_12_77 ay_222 rfl rfl ?_
      refine ax_mv 1 86 [some (.ref 222), some (ax_i x1), y2] [ax_i x1, .ref 245, .ref 222] rfl ?_
      obtain ⟨o17, h⟩ := h
      refine ax_ild (n := 701) (pc' := 87) ⟨_, rfl⟩ ay_245 (by decide) o17 rfl ?_
      refine ax_mv 2 89 [some (.ref 222), some (ax_i x1), y2] [.ref 222, .ref 222, ax_i (V 245 x1), .ref 222] rfl ?_
      refine ax_gR (v := .ref 250) (pc' := 92) ⟨_, rfl⟩ fl_12_92 ay_222 rfl rfl ?_
      refine ax_mv 1 93 [some (.ref 222), some (ax_i x1), y2] [ax_i x1, .ref 250, .ref 222, ax_i (V 245 x1), .ref 222] rfl ?_
      obtain ⟨o18, h⟩ := h
      refine ax_ild (n := 701) (pc' := 94) ⟨_, rfl⟩ ay_250 (by decide) o18 rfl ?_
      refine ax_mv 1 95 [some (.ref 222), some (ax_i x1), y2] [.ref 222, ax_i (V 250 x1), .ref 222, ax_i (V 245 x1), .ref 222] rfl ?_
      refine ax_gR (v := .ref 248) (pc' := 98) ⟨_, rfl⟩ fl_12_86 ay_222 rfl rfl ?_
      refine ax_mv 1 99 [some (.ref 222), some (ax_i x1), y2] [ax_i x1, .ref 248, ax_i (V 250 x1), .ref 222, ax_i (V 245 x1), .ref 222] rfl ?_
      obtain ⟨o19, h⟩ := h
      refine ax_ild (n := 701) (pc' := 100) ⟨_, rfl⟩ ay_248 (by decide) o19 rfl ?_
      refine ax_callI (pc' := 103) ⟨_, rfl⟩ ml_12_490 (rest := [ax_i (V 245 x1), .ref 222]) rfl (fun ss hs => ⟨_, _, ay_222 ss hs⟩) (Nat.le_of_ble_eq_true rfl) rfl rfl h (fun r6 V6 hg6 hr6 h => ?_)
      refine ax_callN (pc' := 106) ⟨_, rfl⟩ ml_12_591 (rest := []) rfl (fun ss hs => ⟨_, _, ay_222 ss hs⟩) (Nat.le_of_ble_eq_true rfl) rfl rfl h (fun V7 hg7 h => ?_)
      refine ax_mv 1 258 [some (.ref 222), some (ax_i x1), y2] [] rfl ?_
      refine ax_inc (x := x1) (pc' := 261) (L' := [some (.ref 222), some (ax_i (x1 + (-1))), y2]) ⟨_, rfl⟩ rfl rfl rfl rfl ?_
      refine ax_mv 1 65 [some (.ref 222), some (ax_i (x1 + (-1))), y2] [] rfl ?_
      exact h
set_option maxRecDepth 20000 in
theorem r_Model_settleClocks_181 {d : Nat} {V : ax_V} {Φ : ax_V → Prop} {Θ : ax_V → Prop} {x1 : Int} {x2 : Int} (hg : ax_g V) (hx1 : ax_rg x1) (hx2 : ax_rg x2) (h : ((x2 = -1 → k_Model_settleClocks_65 d (x1 + (-1)) (some (ax_i x2)) V Φ Θ) ∧ (¬ x2 = -1 → (0 ≤ x1 ∧ x1 < 701) ∧ ax_N ay_lay d q_Model_free [.ref 222, ax_i x2, ax_i (V 254 x1)] V (fun V1 => (0 ≤ x2 ∧ x2 < 701) ∧ k_Model_settleClocks_181 d x1 (V1 252 x2) V1 Φ Θ) Θ))) : k_Model_settleClocks_181 d x1 x2 V Φ Θ := by
  refine ax_mv 2 183 [some (.ref 222), some (ax_i x1), some (ax_i x2)] [ax_i (-1), ax_i x2] rfl ?_
  refine ax_if2 (p1 := 207) (p2 := 186) ⟨_, rfl⟩ (by decide) rfl hx2 (by decide) (fun hc => ?_) (fun hc => ?_)
  · have h := h.1 hc
    refine ax_mv 1 258 [some (.ref 222), some (ax_i x1), some (ax_i x2)] [] rfl ?_
    refine ax_inc (x := x1) (pc' := 261) (L' := [some (.ref 222), some (ax_i (x1 + (-1))), some (ax_i x2)]) ⟨_, rfl⟩ rfl rfl rfl rfl ?_
    refine ax_mv 1 65 [some (.ref 222), some (ax_i (x1 + (-1))), some (ax_i x2)] [] rfl ?_
    exact h
  · have h := h.2 hc
    refine ax_mv 3 189 [some (.ref 222), some (ax_i x1), some (ax_i x2)] [.ref 222, ax_i x2, .ref 222] rfl ?_
    refine ax_gR (v := .ref 254) (pc' := 192) ⟨_, rfl⟩ fl_12_104 ay_222 rfl rfl ?_
    refine ax_mv 1 193 [some (.ref 222), some (ax_i x1), some (ax_i x2)] [ax_i x1, .ref 254, ax_i x2, .ref 222] rfl ?_
    obtain ⟨o20, h⟩ := h
    refine ax_ild (n := 701) (pc' := 194) ⟨_, rfl⟩ ay_254 (by decide) o20 rfl ?_
    refine ax_callN (pc' := 197) ⟨_, rfl⟩ ml_12_591 (rest := []) rfl (fun ss hs => ⟨_, _, ay_222 ss hs⟩) (Nat.le_of_ble_eq_true rfl) rfl rfl h (fun V1 hg1 h => ?_)
    refine ax_mv 1 198 [some (.ref 222), some (ax_i x1), some (ax_i x2)] [.ref 222] rfl ?_
    refine ax_gR (v := .ref 252) (pc' := 201) ⟨_, rfl⟩ fl_12_98 ay_222 rfl rfl ?_
    refine ax_mv 1 202 [some (.ref 222), some (ax_i x1), some (ax_i x2)] [ax_i x2, .ref 252] rfl ?_
    obtain ⟨o21, h⟩ := h
    refine ax_ild (n := 701) (pc' := 203) ⟨_, rfl⟩ ay_252 (by decide) o21 rfl ?_
    refine ax_sti (i := 0) (k := 2) (n := 1) (pc' := 204) (L' := [some (.ref 222), some (ax_i x1), some (ax_i (V1 252 x2))]) ⟨_, rfl⟩ rfl rfl rfl (Nat.le_of_ble_eq_true rfl) rfl rfl ?_
    refine ax_mv 1 181 [some (.ref 222), some (ax_i x1), some (ax_i (V1 252 x2))] [] rfl ?_
    exact h
set_option maxRecDepth 20000 in
theorem r_Model_settleClocks {d : Nat} {V : ax_V} {Φ : ax_V → Prop} {Θ : ax_V → Prop} (hg : ax_g V) (h : k_Model_settleClocks_2 d 0 none V Φ Θ) : ax_N ay_lay (d + 1) q_Model_settleClocks [.ref 222] V Φ Θ := by
  refine ax_T.of (M := m_Model_settleClocks) rfl (Nat.le_of_ble_eq_true rfl) ?_
  refine ax_mv 0 0 [some (.ref 222), none, none] [] rfl ?_
  refine ax_mv 1 1 [some (.ref 222), none, none] [ax_i 0] rfl ?_
  refine ax_sti (i := 0) (k := 1) (n := 1) (pc' := 2) (L' := [some (.ref 222), some (ax_i 0), none]) ⟨_, rfl⟩ rfl rfl rfl (Nat.le_of_ble_eq_true rfl) rfl rfl ?_
  exact h
theorem r_Model_free {d : Nat} {V : ax_V} {Φ : ax_V → Prop} {Θ : ax_V → Prop} {x1 : Int} {x2 : Int} (hg : ax_g V) (hx1 : ax_rg x1) (hx2 : ax_rg x2) (h : ((x1 = -1 → Φ V) ∧ (¬ x1 = -1 → (0 ≤ x1 ∧ x1 < 701) ∧ ((V 254 x1 = -1 → (0 ≤ x1 ∧ x1 < 701) ∧ (∀ V1, V1 = ax_u V 254 x1 x2 → Φ V1)) ∧ (¬ V 254 x1 = -1 → Φ V))))) : ax_N ay_lay (d + 1) q_Model_free [.ref 222, ax_i x1, ax_i x2] V Φ Θ := by
  refine ax_T.of (M := m_Model_free) rfl (Nat.le_of_ble_eq_true rfl) ?_
  refine ax_mv 0 0 [some (.ref 222), some (ax_i x1), some (ax_i x2)] [] rfl ?_
  refine ax_mv 2 2 [some (.ref 222), some (ax_i x1), some (ax_i x2)] [ax_i (-1), ax_i x1] rfl ?_
  refine ax_if2 (p1 := 22) (p2 := 5) ⟨_, rfl⟩ (by decide) rfl hx1 (by decide) (fun hc => ?_) (fun hc => ?_)
  · have h := h.1 hc
    exact ax_nret ⟨_, rfl⟩ rfl hg h
  · have h := h.2 hc
    refine ax_mv 1 6 [some (.ref 222), some (ax_i x1), some (ax_i x2)] [.ref 222] rfl ?_
    refine ax_gR (v := .ref 254) (pc' := 9) ⟨_, rfl⟩ fl_12_104 ay_222 rfl rfl ?_
    refine ax_mv 1 10 [some (.ref 222), some (ax_i x1), some (ax_i x2)] [ax_i x1, .ref 254] rfl ?_
    obtain ⟨o1, h⟩ := h
    refine ax_ild (n := 701) (pc' := 11) ⟨_, rfl⟩ ay_254 (by decide) o1 rfl ?_
    refine ax_mv 1 12 [some (.ref 222), some (ax_i x1), some (ax_i x2)] [ax_i (-1), ax_i (V 254 x1)] rfl ?_
    refine ax_if2 (p1 := 22) (p2 := 15) ⟨_, rfl⟩ (by decide) rfl (hg _ _) (by decide) (fun hc => ?_) (fun hc => ?_)
    · have h := h.2 hc
      exact ax_nret ⟨_, rfl⟩ rfl hg h
    · have h := h.1 (Classical.not_not.mp hc)
      refine ax_mv 1 16 [some (.ref 222), some (ax_i x1), some (ax_i x2)] [.ref 222] rfl ?_
      refine ax_gR (v := .ref 254) (pc' := 19) ⟨_, rfl⟩ fl_12_104 ay_222 rfl rfl ?_
      refine ax_mv 2 21 [some (.ref 222), some (ax_i x1), some (ax_i x2)] [ax_i x2, ax_i x1, .ref 254] rfl ?_
      obtain ⟨o2, h⟩ := h
      obtain ⟨V1, eV1⟩ : ∃ W9 : ax_V, W9 = ax_u V 254 x1 x2 := ⟨_, rfl⟩
      have h := h V1 eV1
      have hg1 : ax_g V1 := eV1 ▸ ax_u_g hg hx2
      refine ax_ist (n := 701) (pc' := 22) ⟨_, rfl⟩ ay_ok ay_254 (by decide) o2 eV1 rfl ?_
      exact ax_nret ⟨_, rfl⟩ rfl hg1 h
