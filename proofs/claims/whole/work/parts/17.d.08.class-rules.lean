/-! RULES of the methods of the class: a method each, and each loop of it. PRINTED by wip/gen/rules.py -/
abbrev k_Judge_findNeeds_10 (B : Nat) (r : Nat) (d : Nat) (x1 : Int) (x2 : Int) (y3 : Option Value) (y4 : Option Value) (y5 : Option Value) (y6 : Option Value) (V : ax_V) (Φ : ax_V → Prop) (Θ : ax_V → Prop) : Prop := ax_R (az_W B (az_EJ B r)) ax_t d m_Judge_findNeeds 10 [some (.ref r), some (ax_i x1), some (ax_i x2), y3, y4, y5, y6] [] V (ax_Nr Φ) Θ
abbrev k_Judge_findNeeds_35 (B : Nat) (r : Nat) (d : Nat) (x1 : Int) (x2 : Int) (x3 : Int) (y4 : Option Value) (y5 : Option Value) (y6 : Option Value) (V : ax_V) (Φ : ax_V → Prop) (Θ : ax_V → Prop) : Prop := ax_R (az_W B (az_EJ B r)) ax_t d m_Judge_findNeeds 35 [some (.ref r), some (ax_i x1), some (ax_i x2), some (ax_i x3), y4, y5, y6] [] V (ax_Nr Φ) Θ
abbrev k_Judge_findNeeds_118 (B : Nat) (r : Nat) (d : Nat) (x1 : Int) (x2 : Int) (y3 : Option Value) (y4 : Option Value) (y5 : Option Value) (y6 : Option Value) (V : ax_V) (Φ : ax_V → Prop) (Θ : ax_V → Prop) : Prop := ax_R (az_W B (az_EJ B r)) ax_t d m_Judge_findNeeds 118 [some (.ref r), some (ax_i x1), some (ax_i x2), y3, y4, y5, y6] [] V (ax_Nr Φ) Θ
abbrev k_Judge_findNeeds_178 (B : Nat) (r : Nat) (d : Nat) (x1 : Int) (x2 : Int) (x3 : Int) (x4 : Int) (x5 : Int) (y6 : Option Value) (V : ax_V) (Φ : ax_V → Prop) (Θ : ax_V → Prop) : Prop := ax_R (az_W B (az_EJ B r)) ax_t d m_Judge_findNeeds 178 [some (.ref r), some (ax_i x1), some (ax_i x2), some (ax_i x3), some (ax_i x4), some (ax_i x5), y6] [] V (ax_Nr Φ) Θ
abbrev k_Judge_findNeeds_263 (B : Nat) (r : Nat) (d : Nat) (x1 : Int) (x2 : Int) (x3 : Int) (x4 : Int) (x5 : Int) (y6 : Option Value) (V : ax_V) (Φ : ax_V → Prop) (Θ : ax_V → Prop) : Prop := ax_R (az_W B (az_EJ B r)) ax_t d m_Judge_findNeeds 263 [some (.ref r), some (ax_i x1), some (ax_i x2), some (ax_i x3), some (ax_i x4), some (ax_i x5), y6] [] V (ax_Nr Φ) Θ
set_option maxRecDepth 20000 in
theorem r_Judge_findNeeds_10 {B : Nat} {r : Nat} {d : Nat} {V : ax_V} {Φ : ax_V → Prop} {Θ : ax_V → Prop} {x1 : Int} {x2 : Int} {y3 : Option Value} {y4 : Option Value} {y5 : Option Value} {y6 : Option Value} (hg : ax_g V) (hx1 : ax_rg x1) (hx2 : ax_rg x2) (hy3 : ax_y y3) (hy4 : ax_y y4) (hy5 : ax_y y5) (hy6 : ax_y y6) (h : (0 ≤ x1 + 1 ∧ x1 + 1 < 9) ∧ ((V 510 (x1 + 1) ≤ x2 → (0 ≤ x1 ∧ x1 < 9) ∧ k_Judge_findNeeds_118 B r d x1 (V 509 x1) y3 y4 y5 y6 V Φ Θ) ∧ (x2 < V 510 (x1 + 1) → (0 ≤ x2 ∧ x2 < 351) ∧ k_Judge_findNeeds_35 B r d x1 x2 (V 559 x2) y4 y5 y6 V Φ Θ))) : k_Judge_findNeeds_10 B r d x1 x2 y3 y4 y5 y6 V Φ Θ := by
  refine ax_mv 2 12 [some (.ref r), some (ax_i x1), some (ax_i x2), y3, y4, y5, y6] [.ref r, ax_i x2] rfl ?_
  refine ax_gR (v := .ref B) (pc' := 15) ⟨_, rfl⟩ fl_3_15 (az_e 0 rfl) rfl rfl ?_
  refine ax_gR (v := .ref (B + 10)) (pc' := 18) ⟨_, rfl⟩ fl_3_175 (az_b 0 rfl) rfl rfl ?_
  refine ax_mv 2 20 [some (.ref r), some (ax_i x1), some (ax_i x2), y3, y4, y5, y6] [ax_i 1, ax_i x1, .ref (B + 10), ax_i x2] rfl ?_
  refine ax_add (pc' := 21) ⟨_, rfl⟩ rfl ?_
  obtain ⟨o1, h⟩ := h
  refine ax_ild (n := 9) (pc' := 22) ⟨_, rfl⟩ (az_b 10 rfl) (by decide) o1 rfl ?_
  refine ax_if2 (p1 := 108) (p2 := 25) ⟨_, rfl⟩ (by decide) rfl hx2 (hg _ _) (fun hc => ?_) (fun hc => ?_)
  · have h := h.1 hc
    refine ax_mv 1 109 [some (.ref r), some (ax_i x1), some (ax_i x2), y3, y4, y5, y6] [.ref r] rfl ?_
    refine ax_gR (v := .ref B) (pc' := 112) ⟨_, rfl⟩ fl_3_15 (az_e 0 rfl) rfl rfl ?_
    refine ax_gR (v := .ref (B + 9)) (pc' := 115) ⟨_, rfl⟩ fl_3_94 (az_b 0 rfl) rfl rfl ?_
    refine ax_mv 1 116 [some (.ref r), some (ax_i x1), some (ax_i x2), y3, y4, y5, y6] [ax_i x1, .ref (B + 9)] rfl ?_
    obtain ⟨o2, h⟩ := h
    refine ax_ild (n := 9) (pc' := 117) ⟨_, rfl⟩ (az_b 9 rfl) (by decide) o2 rfl ?_
    refine ax_sti (i := 0) (k := 2) (n := 1) (pc' := 118) (L' := [some (.ref r), some (ax_i x1), some (ax_i (V 509 x1)), y3, y4, y5, y6]) ⟨_, rfl⟩ rfl rfl rfl (Nat.le_of_ble_eq_true rfl) rfl rfl ?_
    exact h
  · have h := h.2 (Int.not_le.mp hc)
    refine ax_mv 1 26 [some (.ref r), some (ax_i x1), some (ax_i x2), y3, y4, y5, y6] [.ref r] rfl ?_
    refine ax_gR (v := .ref (B + 56)) (pc' := 29) ⟨_, rfl⟩ fl_3_40 (az_e 0 rfl) rfl rfl ?_
    refine ax_gR (v := .ref (B + 59)) (pc' := 32) ⟨_, rfl⟩ fl_3_184 (az_b 56 rfl) rfl rfl ?_
    refine ax_mv 1 33 [some (.ref r), some (ax_i x1), some (ax_i x2), y3, y4, y5, y6] [ax_i x2, .ref (B + 59)] rfl ?_
    obtain ⟨o3, h⟩ := h
    refine ax_ild (n := 351) (pc' := 34) ⟨_, rfl⟩ (az_b 59 rfl) (by decide) o3 rfl ?_
    refine ax_sti (i := 0) (k := 3) (n := 1) (pc' := 35) (L' := [some (.ref r), some (ax_i x1), some (ax_i x2), some (ax_i (V 559 x2)), y4, y5, y6]) ⟨_, rfl⟩ rfl rfl rfl (Nat.le_of_ble_eq_true rfl) rfl rfl ?_
    exact h
set_option maxRecDepth 20000 in
theorem r_Judge_findNeeds_35 {B : Nat} {r : Nat} {d : Nat} {V : ax_V} {Φ : ax_V → Prop} {Θ : ax_V → Prop} {x1 : Int} {x2 : Int} {x3 : Int} {y4 : Option Value} {y5 : Option Value} {y6 : Option Value} (hg : ax_g V) (hx1 : ax_rg x1) (hx2 : ax_rg x2) (hx3 : ax_rg x3) (hy4 : ax_y y4) (hy5 : ax_y y5) (hy6 : ax_y y6) (h : (0 ≤ x2 + 1 ∧ x2 + 1 < 351) ∧ ((V 559 (x2 + 1) ≤ x3 → k_Judge_findNeeds_10 B r d x1 (x2 + 1) (some (ax_i x3)) y4 y5 y6 V Φ Θ) ∧ (x3 < V 559 (x2 + 1) → (0 ≤ x3 ∧ x3 < 350) ∧ ((V 568 x3 = 0 → k_Judge_findNeeds_35 B r d x1 x2 (x3 + 1) y4 y5 y6 V Φ Θ) ∧ (¬ V 568 x3 = 0 → (0 ≤ x2 ∧ x2 < 350) ∧ (0 ≤ x3 ∧ x3 < 350) ∧ (0 ≤ x3 ∧ x3 < 350) ∧ ax_I (az_W B (az_EJ B r)) d q_Judge_lettersIn [.ref r, ax_i (V 570 x3), ax_i (V 571 x3)] V (fun r1 V1 => (0 ≤ x2 ∧ x2 < 350) ∧ (∀ V2, V2 = ax_u V1 561 x2 (ax_or (V 561 x2) r1) → k_Judge_findNeeds_35 B r d x1 x2 (x3 + 1) y4 y5 y6 V2 Φ Θ)) Θ))))) : k_Judge_findNeeds_35 B r d x1 x2 x3 y4 y5 y6 V Φ Θ := by
  refine ax_mv 2 37 [some (.ref r), some (ax_i x1), some (ax_i x2), some (ax_i x3), y4, y5, y6] [.ref r, ax_i x3] rfl ?_
  refine ax_gR (v := .ref (B + 56)) (pc' := 40) ⟨_, rfl⟩ fl_3_40 (az_e 0 rfl) rfl rfl ?_
  refine ax_gR (v := .ref (B + 59)) (pc' := 43) ⟨_, rfl⟩ fl_3_184 (az_b 56 rfl) rfl rfl ?_
  refine ax_mv 2 45 [some (.ref r), some (ax_i x1), some (ax_i x2), some (ax_i x3), y4, y5, y6] [ax_i 1, ax_i x2, .ref (B + 59), ax_i x3] rfl ?_
  refine ax_add (pc' := 46) ⟨_, rfl⟩ rfl ?_
  obtain ⟨o4, h⟩ := h
  refine ax_ild (n := 351) (pc' := 47) ⟨_, rfl⟩ (az_b 59 rfl) (by decide) o4 rfl ?_
  refine ax_if2 (p1 := 102) (p2 := 50) ⟨_, rfl⟩ (by decide) rfl hx3 (hg _ _) (fun hc => ?_) (fun hc => ?_)
  · have h := h.1 hc
    refine ax_inc (x := x2) (pc' := 105) (L' := [some (.ref r), some (ax_i x1), some (ax_i (x2 + 1)), some (ax_i x3), y4, y5, y6]) ⟨_, rfl⟩ rfl rfl rfl rfl ?_
    refine ax_mv 1 10 [some (.ref r), some (ax_i x1), some (ax_i (x2 + 1)), some (ax_i x3), y4, y5, y6] [] rfl ?_
    exact h
  · have h := h.2 (Int.not_le.mp hc)
    refine ax_mv 1 51 [some (.ref r), some (ax_i x1), some (ax_i x2), some (ax_i x3), y4, y5, y6] [.ref r] rfl ?_
    refine ax_gR (v := .ref (B + 56)) (pc' := 54) ⟨_, rfl⟩ fl_3_40 (az_e 0 rfl) rfl rfl ?_
    refine ax_gR (v := .ref (B + 68)) (pc' := 57) ⟨_, rfl⟩ fl_3_284 (az_b 56 rfl) rfl rfl ?_
    refine ax_mv 1 58 [some (.ref r), some (ax_i x1), some (ax_i x2), some (ax_i x3), y4, y5, y6] [ax_i x3, .ref (B + 68)] rfl ?_
    obtain ⟨o5, h⟩ := h
    refine ax_bld (n := 350) (pc' := 59) ⟨_, rfl⟩ (az_b 68 rfl) (by decide) o5 rfl ?_
    refine ax_if (p1 := 96) (p2 := 62) ⟨_, rfl⟩ (by decide) rfl (hg _ _) (fun hc => ?_) (fun hc => ?_)
    · have h := h.1 hc
      refine ax_inc (x := x3) (pc' := 99) (L' := [some (.ref r), some (ax_i x1), some (ax_i x2), some (ax_i (x3 + 1)), y4, y5, y6]) ⟨_, rfl⟩ rfl rfl rfl rfl ?_
      refine ax_mv 1 35 [some (.ref r), some (ax_i x1), some (ax_i x2), some (ax_i (x3 + 1)), y4, y5, y6] [] rfl ?_
      exact h
    · have h := h.2 hc
      refine ax_mv 1 63 [some (.ref r), some (ax_i x1), some (ax_i x2), some (ax_i x3), y4, y5, y6] [.ref r] rfl ?_
      refine ax_gR (v := .ref (B + 56)) (pc' := 66) ⟨_, rfl⟩ fl_3_40 (az_e 0 rfl) rfl rfl ?_
      refine ax_gR (v := .ref (B + 61)) (pc' := 69) ⟨_, rfl⟩ fl_3_287 (az_b 56 rfl) rfl rfl ?_
      refine ax_mv 2 71 [some (.ref r), some (ax_i x1), some (ax_i x2), some (ax_i x3), y4, y5, y6] [ax_i x2, .ref (B + 61), ax_i x2, .ref (B + 61)] rfl ?_
      obtain ⟨o6, h⟩ := h
      refine ax_ild (n := 350) (pc' := 72) ⟨_, rfl⟩ (az_b 61 rfl) (by decide) o6 rfl ?_
      refine ax_mv 2 74 [some (.ref r), some (ax_i x1), some (ax_i x2), some (ax_i x3), y4, y5, y6] [.ref r, .ref r, ax_i (V 561 x2), ax_i x2, .ref (B + 61)] rfl ?_
      refine ax_gR (v := .ref (B + 56)) (pc' := 77) ⟨_, rfl⟩ fl_3_40 (az_e 0 rfl) rfl rfl ?_
      refine ax_gR (v := .ref (B + 70)) (pc' := 80) ⟨_, rfl⟩ fl_3_290 (az_b 56 rfl) rfl rfl ?_
      refine ax_mv 1 81 [some (.ref r), some (ax_i x1), some (ax_i x2), some (ax_i x3), y4, y5, y6] [ax_i x3, .ref (B + 70), .ref r, ax_i (V 561 x2), ax_i x2, .ref (B + 61)] rfl ?_
      obtain ⟨o7, h⟩ := h
      refine ax_ild (n := 350) (pc' := 82) ⟨_, rfl⟩ (az_b 70 rfl) (by decide) o7 rfl ?_
      refine ax_mv 1 83 [some (.ref r), some (ax_i x1), some (ax_i x2), some (ax_i x3), y4, y5, y6] [.ref r, ax_i (V 570 x3), .ref r, ax_i (V 561 x2), ax_i x2, .ref (B + 61)] rfl ?_
      refine ax_gR (v := .ref (B + 56)) (pc' := 86) ⟨_, rfl⟩ fl_3_40 (az_e 0 rfl) rfl rfl ?_
      refine ax_gR (v := .ref (B + 71)) (pc' := 89) ⟨_, rfl⟩ fl_3_209 (az_b 56 rfl) rfl rfl ?_
      refine ax_mv 1 90 [some (.ref r), some (ax_i x1), some (ax_i x2), some (ax_i x3), y4, y5, y6] [ax_i x3, .ref (B + 71), ax_i (V 570 x3), .ref r, ax_i (V 561 x2), ax_i x2, .ref (B + 61)] rfl ?_
      obtain ⟨o8, h⟩ := h
      refine ax_ild (n := 350) (pc' := 91) ⟨_, rfl⟩ (az_b 71 rfl) (by decide) o8 rfl ?_
      refine ax_callI (pc' := 94) ⟨_, rfl⟩ ml_3_293 (rest := [ax_i (V 561 x2), ax_i x2, .ref (B + 61)]) rfl (fun ss hs => ⟨_, _, (az_e 0 rfl) ss hs⟩) (Nat.le_of_ble_eq_true rfl) rfl rfl h (fun r1 V1 hg1 hr1 h => ?_)
      refine ax_ror (pc' := 95) ⟨_, rfl⟩ rfl ?_
      obtain ⟨o9, h⟩ := h
      obtain ⟨V2, eV2⟩ : ∃ W9 : ax_V, W9 = ax_u V1 561 x2 (ax_or (V 561 x2) r1) := ⟨_, rfl⟩
      have h := h V2 eV2
      have hg2 : ax_g V2 := eV2 ▸ ax_u_g hg1 (ax_rg_of _)
      refine ax_ist (n := 350) (pc' := 96) ⟨_, rfl⟩ az_ok (az_b 61 rfl) (by decide) o9 eV2 rfl ?_
      refine ax_inc (x := x3) (pc' := 99) (L' := [some (.ref r), some (ax_i x1), some (ax_i x2), some (ax_i (x3 + 1)), y4, y5, y6]) ⟨_, rfl⟩ rfl rfl rfl rfl ?_
      refine ax_mv 1 35 [some (.ref r), some (ax_i x1), some (ax_i x2), some (ax_i (x3 + 1)), y4, y5, y6] [] rfl ?_
      exact h
set_option maxRecDepth 20000 in
theorem r_Judge_findNeeds_118 {B : Nat} {r : Nat} {d : Nat} {V : ax_V} {Φ : ax_V → Prop} {Θ : ax_V → Prop} {x1 : Int} {x2 : Int} {y3 : Option Value} {y4 : Option Value} {y5 : Option Value} {y6 : Option Value} (hg : ax_g V) (hx1 : ax_rg x1) (hx2 : ax_rg x2) (hy3 : ax_y y3) (hy4 : ax_y y4) (hy5 : ax_y y5) (hy6 : ax_y y6) (h : (0 ≤ x1 + 1 ∧ x1 + 1 < 9) ∧ ((V 509 (x1 + 1) ≤ x2 → Φ V) ∧ (x2 < V 509 (x1 + 1) → (0 ≤ x2 ∧ x2 < 350) ∧ (0 ≤ x2 ∧ x2 < 350) ∧ (0 ≤ x2 ∧ x2 < 350) ∧ ax_I (az_W B (az_EJ B r)) d q_Judge_lettersIn [.ref r, ax_i (V 549 x2), ax_i (V 550 x2)] V (fun r1 V1 => (0 ≤ x2 ∧ x2 < 351) ∧ k_Judge_findNeeds_178 B r d x1 x2 (V 551 x2) r1 (V1 548 x2) y6 V1 Φ Θ) Θ))) : k_Judge_findNeeds_118 B r d x1 x2 y3 y4 y5 y6 V Φ Θ := by
  refine ax_mv 2 120 [some (.ref r), some (ax_i x1), some (ax_i x2), y3, y4, y5, y6] [.ref r, ax_i x2] rfl ?_
  refine ax_gR (v := .ref B) (pc' := 123) ⟨_, rfl⟩ fl_3_15 (az_e 0 rfl) rfl rfl ?_
  refine ax_gR (v := .ref (B + 9)) (pc' := 126) ⟨_, rfl⟩ fl_3_94 (az_b 0 rfl) rfl rfl ?_
  refine ax_mv 2 128 [some (.ref r), some (ax_i x1), some (ax_i x2), y3, y4, y5, y6] [ax_i 1, ax_i x1, .ref (B + 9), ax_i x2] rfl ?_
  refine ax_add (pc' := 129) ⟨_, rfl⟩ rfl ?_
  obtain ⟨o10, h⟩ := h
  refine ax_ild (n := 9) (pc' := 130) ⟨_, rfl⟩ (az_b 9 rfl) (by decide) o10 rfl ?_
  refine ax_if2 (p1 := 345) (p2 := 133) ⟨_, rfl⟩ (by decide) rfl hx2 (hg _ _) (fun hc => ?_) (fun hc => ?_)
  · have h := h.1 hc
    exact ax_nret ⟨_, rfl⟩ rfl hg h
  · have h := h.2 (Int.not_le.mp hc)
    refine ax_mv 1 134 [some (.ref r), some (ax_i x1), some (ax_i x2), y3, y4, y5, y6] [.ref r] rfl ?_
    refine ax_gR (v := .ref (B + 47)) (pc' := 137) ⟨_, rfl⟩ fl_3_35 (az_e 0 rfl) rfl rfl ?_
    refine ax_gR (v := .ref (B + 51)) (pc' := 140) ⟨_, rfl⟩ fl_3_108 (az_b 47 rfl) rfl rfl ?_
    refine ax_mv 1 141 [some (.ref r), some (ax_i x1), some (ax_i x2), y3, y4, y5, y6] [ax_i x2, .ref (B + 51)] rfl ?_
    obtain ⟨o11, h⟩ := h
    refine ax_ild (n := 350) (pc' := 142) ⟨_, rfl⟩ (az_b 51 rfl) (by decide) o11 rfl ?_
    refine ax_sti (i := 0) (k := 3) (n := 1) (pc' := 143) (L' := [some (.ref r), some (ax_i x1), some (ax_i x2), some (ax_i (V 551 x2)), y4, y5, y6]) ⟨_, rfl⟩ rfl rfl rfl (Nat.le_of_ble_eq_true rfl) rfl rfl ?_
    refine ax_mv 2 145 [some (.ref r), some (ax_i x1), some (ax_i x2), some (ax_i (V 551 x2)), y4, y5, y6] [.ref r, .ref r] rfl ?_
    refine ax_gR (v := .ref (B + 47)) (pc' := 148) ⟨_, rfl⟩ fl_3_35 (az_e 0 rfl) rfl rfl ?_
    refine ax_gR (v := .ref (B + 49)) (pc' := 151) ⟨_, rfl⟩ fl_3_296 (az_b 47 rfl) rfl rfl ?_
    refine ax_mv 1 152 [some (.ref r), some (ax_i x1), some (ax_i x2), some (ax_i (V 551 x2)), y4, y5, y6] [ax_i x2, .ref (B + 49), .ref r] rfl ?_
    obtain ⟨o12, h⟩ := h
    refine ax_ild (n := 350) (pc' := 153) ⟨_, rfl⟩ (az_b 49 rfl) (by decide) o12 rfl ?_
    refine ax_mv 1 154 [some (.ref r), some (ax_i x1), some (ax_i x2), some (ax_i (V 551 x2)), y4, y5, y6] [.ref r, ax_i (V 549 x2), .ref r] rfl ?_
    refine ax_gR (v := .ref (B + 47)) (pc' := 157) ⟨_, rfl⟩ fl_3_35 (az_e 0 rfl) rfl rfl ?_
    refine ax_gR (v := .ref (B + 50)) (pc' := 160) ⟨_, rfl⟩ fl_3_245 (az_b 47 rfl) rfl rfl ?_
    refine ax_mv 1 161 [some (.ref r), some (ax_i x1), some (ax_i x2), some (ax_i (V 551 x2)), y4, y5, y6] [ax_i x2, .ref (B + 50), ax_i (V 549 x2), .ref r] rfl ?_
    obtain ⟨o13, h⟩ := h
    refine ax_ild (n := 350) (pc' := 162) ⟨_, rfl⟩ (az_b 50 rfl) (by decide) o13 rfl ?_
    refine ax_callI (pc' := 165) ⟨_, rfl⟩ ml_3_293 (rest := []) rfl (fun ss hs => ⟨_, _, (az_e 0 rfl) ss hs⟩) (Nat.le_of_ble_eq_true rfl) rfl rfl h (fun r1 V1 hg1 hr1 h => ?_)
    refine ax_sti (i := 0) (k := 4) (n := 2) (pc' := 167) (L' := [some (.ref r), some (ax_i x1), some (ax_i x2), some (ax_i (V 551 x2)), some (ax_i r1), y5, y6]) ⟨_, rfl⟩ rfl rfl rfl (Nat.le_of_ble_eq_true rfl) rfl rfl ?_
    refine ax_mv 1 168 [some (.ref r), some (ax_i x1), some (ax_i x2), some (ax_i (V 551 x2)), some (ax_i r1), y5, y6] [.ref r] rfl ?_
    refine ax_gR (v := .ref (B + 47)) (pc' := 171) ⟨_, rfl⟩ fl_3_35 (az_e 0 rfl) rfl rfl ?_
    refine ax_gR (v := .ref (B + 48)) (pc' := 174) ⟨_, rfl⟩ fl_3_97 (az_b 47 rfl) rfl rfl ?_
    refine ax_mv 1 175 [some (.ref r), some (ax_i x1), some (ax_i x2), some (ax_i (V 551 x2)), some (ax_i r1), y5, y6] [ax_i x2, .ref (B + 48)] rfl ?_
    obtain ⟨o14, h⟩ := h
    refine ax_ild (n := 351) (pc' := 176) ⟨_, rfl⟩ (az_b 48 rfl) (by decide) o14 rfl ?_
    refine ax_sti (i := 0) (k := 5) (n := 2) (pc' := 178) (L' := [some (.ref r), some (ax_i x1), some (ax_i x2), some (ax_i (V 551 x2)), some (ax_i r1), some (ax_i (V1 548 x2)), y6]) ⟨_, rfl⟩ rfl rfl rfl (Nat.le_of_ble_eq_true rfl) rfl rfl ?_
    exact h
set_option maxRecDepth 20000 in
theorem r_Judge_findNeeds_178 {B : Nat} {r : Nat} {d : Nat} {V : ax_V} {Φ : ax_V → Prop} {Θ : ax_V → Prop} {x1 : Int} {x2 : Int} {x3 : Int} {x4 : Int} {x5 : Int} {y6 : Option Value} (hg : ax_g V) (hx1 : ax_rg x1) (hx2 : ax_rg x2) (hx3 : ax_rg x3) (hx4 : ax_rg x4) (hx5 : ax_rg x5) (hy6 : ax_y y6) (h : (0 ≤ x2 + 1 ∧ x2 + 1 < 351) ∧ ((V 548 (x2 + 1) ≤ x5 → (0 ≤ x2 ∧ x2 < 350) ∧ (∀ V1, V1 = ax_u V 552 x2 x4 → (0 ≤ x2 ∧ x2 < 351) ∧ k_Judge_findNeeds_263 B r d x1 x2 x3 x4 (V1 548 x2) y6 V1 Φ Θ)) ∧ (x5 < V 548 (x2 + 1) → (0 ≤ x5 ∧ x5 < 350) ∧ (0 ≤ V 554 x5 ∧ V 554 x5 < 208) ∧ ((0 ≤ V 536 (V 554 x5) → ax_I (az_W B (az_EJ B r)) d q_Letters_bit [ax_i (ax_shr (V 536 (V 554 x5)) 1)] V (fun r2 V2 => k_Judge_findNeeds_178 B r d x1 x2 x3 (ax_or x4 r2) (x5 + 1) (some (ax_i (V 536 (V 554 x5)))) V2 Φ Θ) (fun _ => False)) ∧ (V 536 (V 554 x5) < 0 → k_Judge_findNeeds_178 B r d x1 x2 x3 (ax_or x4 0) (x5 + 1) (some (ax_i (V 536 (V 554 x5)))) V Φ Θ))))) : k_Judge_findNeeds_178 B r d x1 x2 x3 x4 x5 y6 V Φ Θ := by
  refine ax_mv 2 181 [some (.ref r), some (ax_i x1), some (ax_i x2), some (ax_i x3), some (ax_i x4), some (ax_i x5), y6] [.ref r, ax_i x5] rfl ?_
  refine ax_gR (v := .ref (B + 47)) (pc' := 184) ⟨_, rfl⟩ fl_3_35 (az_e 0 rfl) rfl rfl ?_
  refine ax_gR (v := .ref (B + 48)) (pc' := 187) ⟨_, rfl⟩ fl_3_97 (az_b 47 rfl) rfl rfl ?_
  refine ax_mv 2 189 [some (.ref r), some (ax_i x1), some (ax_i x2), some (ax_i x3), some (ax_i x4), some (ax_i x5), y6] [ax_i 1, ax_i x2, .ref (B + 48), ax_i x5] rfl ?_
  refine ax_add (pc' := 190) ⟨_, rfl⟩ rfl ?_
  obtain ⟨o15, h⟩ := h
  refine ax_ild (n := 351) (pc' := 191) ⟨_, rfl⟩ (az_b 48 rfl) (by decide) o15 rfl ?_
  refine ax_if2 (p1 := 241) (p2 := 194) ⟨_, rfl⟩ (by decide) rfl hx5 (hg _ _) (fun hc => ?_) (fun hc => ?_)
  · have h := h.1 hc
    refine ax_mv 1 242 [some (.ref r), some (ax_i x1), some (ax_i x2), some (ax_i x3), some (ax_i x4), some (ax_i x5), y6] [.ref r] rfl ?_
    refine ax_gR (v := .ref (B + 47)) (pc' := 245) ⟨_, rfl⟩ fl_3_35 (az_e 0 rfl) rfl rfl ?_
    refine ax_gR (v := .ref (B + 52)) (pc' := 248) ⟨_, rfl⟩ fl_3_297 (az_b 47 rfl) rfl rfl ?_
    refine ax_mv 2 251 [some (.ref r), some (ax_i x1), some (ax_i x2), some (ax_i x3), some (ax_i x4), some (ax_i x5), y6] [ax_i x4, ax_i x2, .ref (B + 52)] rfl ?_
    obtain ⟨o16, h⟩ := h
    obtain ⟨V1, eV1⟩ : ∃ W9 : ax_V, W9 = ax_u V 552 x2 x4 := ⟨_, rfl⟩
    have h := h V1 eV1
    have hg1 : ax_g V1 := eV1 ▸ ax_u_g hg hx4
    refine ax_ist (n := 350) (pc' := 252) ⟨_, rfl⟩ az_ok (az_b 52 rfl) (by decide) o16 eV1 rfl ?_
    refine ax_mv 1 253 [some (.ref r), some (ax_i x1), some (ax_i x2), some (ax_i x3), some (ax_i x4), some (ax_i x5), y6] [.ref r] rfl ?_
    refine ax_gR (v := .ref (B + 47)) (pc' := 256) ⟨_, rfl⟩ fl_3_35 (az_e 0 rfl) rfl rfl ?_
    refine ax_gR (v := .ref (B + 48)) (pc' := 259) ⟨_, rfl⟩ fl_3_97 (az_b 47 rfl) rfl rfl ?_
    refine ax_mv 1 260 [some (.ref r), some (ax_i x1), some (ax_i x2), some (ax_i x3), some (ax_i x4), some (ax_i x5), y6] [ax_i x2, .ref (B + 48)] rfl ?_
    obtain ⟨o17, h⟩ := h
    refine ax_ild (n := 351) (pc' := 261) ⟨_, rfl⟩ (az_b 48 rfl) (by decide) o17 rfl ?_
    refine ax_sti (i := 0) (k := 5) (n := 2) (pc' := 263) (L' := [some (.ref r), some (ax_i x1), some (ax_i x2), some (ax_i x3), some (ax_i x4), some (ax_i (V1 548 x2)), y6]) ⟨_, rfl⟩ rfl rfl rfl (Nat.le_of_ble_eq_true rfl) rfl rfl ?_
    exact h
  · have h := h.2 (Int.not_le.mp hc)
    refine ax_mv 1 195 [some (.ref r), some (ax_i x1), some (ax_i x2), some (ax_i x3), some (ax_i x4), some (ax_i x5), y6] [.ref r] rfl ?_
    refine ax_gR (v := .ref (B + 32)) (pc' := 198) ⟨_, rfl⟩ fl_3_30 (az_e 0 rfl) rfl rfl ?_
    refine ax_gR (v := .ref (B + 36)) (pc' := 201) ⟨_, rfl⟩ fl_3_193 (az_b 32 rfl) rfl rfl ?_
    refine ax_mv 1 202 [some (.ref r), some (ax_i x1), some (ax_i x2), some (ax_i x3), some (ax_i x4), some (ax_i x5), y6] [.ref r, .ref (B + 36)] rfl ?_
    refine ax_gR (v := .ref (B + 47)) (pc' := 205) ⟨_, rfl⟩ fl_3_35 (az_e 0 rfl) rfl rfl ?_
    refine ax_gR (v := .ref (B + 54)) (pc' := 208) ⟨_, rfl⟩ fl_3_102 (az_b 47 rfl) rfl rfl ?_
    refine ax_mv 1 210 [some (.ref r), some (ax_i x1), some (ax_i x2), some (ax_i x3), some (ax_i x4), some (ax_i x5), y6] [ax_i x5, .ref (B + 54), .ref (B + 36)] rfl ?_
    obtain ⟨o18, h⟩ := h
    refine ax_ild (n := 350) (pc' := 211) ⟨_, rfl⟩ (az_b 54 rfl) (by decide) o18 rfl ?_
    obtain ⟨o19, h⟩ := h
    refine ax_ild (n := 208) (pc' := 212) ⟨_, rfl⟩ (az_b 36 rfl) (by decide) o19 rfl ?_
    refine ax_sti (i := 0) (k := 6) (n := 2) (pc' := 214) (L' := [some (.ref r), some (ax_i x1), some (ax_i x2), some (ax_i x3), some (ax_i x4), some (ax_i x5), some (ax_i (V 536 (V 554 x5)))]) ⟨_, rfl⟩ rfl rfl rfl (Nat.le_of_ble_eq_true rfl) rfl rfl ?_
    refine ax_mv 2 218 [some (.ref r), some (ax_i x1), some (ax_i x2), some (ax_i x3), some (ax_i x4), some (ax_i x5), some (ax_i (V 536 (V 554 x5)))] [ax_i (V 536 (V 554 x5)), ax_i x4] rfl ?_
    refine ax_if (p1 := 225) (p2 := 221) ⟨_, rfl⟩ (by decide) rfl (hg _ _) (fun hc => ?_) (fun hc => ?_)
    · have h := h.1 hc
      refine ax_mv 2 228 [some (.ref r), some (ax_i x1), some (ax_i x2), some (ax_i x3), some (ax_i x4), some (ax_i x5), some (ax_i (V 536 (V 554 x5)))] [ax_i 1, ax_i (V 536 (V 554 x5)), ax_i x4] rfl ?_
      refine ax_rshr (pc' := 229) ⟨_, rfl⟩ rfl ?_
      refine ax_callS (pc' := 232) ⟨_, rfl⟩ ml_3_130 (Nat.le_of_ble_eq_true rfl) (Nat.le_of_ble_eq_true rfl) rfl h (fun r2 V2 hg2 hr2 h => ?_)
      refine ax_mv 0 232 [some (.ref r), some (ax_i x1), some (ax_i x2), some (ax_i x3), some (ax_i x4), some (ax_i x5), some (ax_i (V 536 (V 554 x5)))] [ax_i r2, ax_i x4] rfl ?_
      refine ax_ror (pc' := 233) ⟨_, rfl⟩ rfl ?_
      refine ax_sti (i := 0) (k := 4) (n := 2) (pc' := 235) (L' := [some (.ref r), some (ax_i x1), some (ax_i x2), some (ax_i x3), some (ax_i (ax_or x4 r2)), some (ax_i x5), some (ax_i (V 536 (V 554 x5)))]) ⟨_, rfl⟩ rfl rfl rfl (Nat.le_of_ble_eq_true rfl) rfl rfl ?_
      refine ax_inc (x := x5) (pc' := 238) (L' := [some (.ref r), some (ax_i x1), some (ax_i x2), some (ax_i x3), some (ax_i (ax_or x4 r2)), some (ax_i (x5 + 1)), some (ax_i (V 536 (V 554 x5)))]) ⟨_, rfl⟩ rfl rfl rfl rfl ?_
      refine ax_mv 1 178 [some (.ref r), some (ax_i x1), some (ax_i x2), some (ax_i x3), some (ax_i (ax_or x4 r2)), some (ax_i (x5 + 1)), some (ax_i (V 536 (V 554 x5)))] [] rfl ?_
      exact h
    · have h := h.2 (Int.not_le.mp hc)
      refine ax_mv 2 232 [some (.ref r), some (ax_i x1), some (ax_i x2), some (ax_i x3), some (ax_i x4), some (ax_i x5), some (ax_i (V 536 (V 554 x5)))] [ax_i 0, ax_i x4] rfl ?_
      refine ax_ror (pc' := 233) ⟨_, rfl⟩ rfl ?_
      refine ax_sti (i := 0) (k := 4) (n := 2) (pc' := 235) (L' := [some (.ref r), some (ax_i x1), some (ax_i x2), some (ax_i x3), some (ax_i (ax_or x4 0)), some (ax_i x5), some (ax_i (V 536 (V 554 x5)))]) ⟨_, rfl⟩ rfl rfl rfl (Nat.le_of_ble_eq_true rfl) rfl rfl ?_
      refine ax_inc (x := x5) (pc' := 238) (L' := [some (.ref r), some (ax_i x1), some (ax_i x2), some (ax_i x3), some (ax_i (ax_or x4 0)), some (ax_i (x5 + 1)), some (ax_i (V 536 (V 554 x5)))]) ⟨_, rfl⟩ rfl rfl rfl rfl ?_
      refine ax_mv 1 178 [some (.ref r), some (ax_i x1), some (ax_i x2), some (ax_i x3), some (ax_i (ax_or x4 0)), some (ax_i (x5 + 1)), some (ax_i (V 536 (V 554 x5)))] [] rfl ?_
      exact h
set_option maxRecDepth 20000 in
theorem r_Judge_findNeeds_263 {B : Nat} {r : Nat} {d : Nat} {V : ax_V} {Φ : ax_V → Prop} {Θ : ax_V → Prop} {x1 : Int} {x2 : Int} {x3 : Int} {x4 : Int} {x5 : Int} {y6 : Option Value} (hg : ax_g V) (hx1 : ax_rg x1) (hx2 : ax_rg x2) (hx3 : ax_rg x3) (hx4 : ax_rg x4) (hx5 : ax_rg x5) (hy6 : ax_y y6) (h : (0 ≤ x2 + 1 ∧ x2 + 1 < 351) ∧ ((V 548 (x2 + 1) ≤ x5 → k_Judge_findNeeds_118 B r d x1 (x2 + 1) (some (ax_i x3)) (some (ax_i x4)) (some (ax_i x5)) y6 V Φ Θ) ∧ (x5 < V 548 (x2 + 1) → ((x3 = -1 → (0 ≤ x5 ∧ x5 < 350) ∧ (0 ≤ V 554 x5 ∧ V 554 x5 < 208) ∧ (0 ≤ V 554 x5 ∧ V 554 x5 < 208) ∧ (∀ V2, V2 = ax_u V 545 (V 554 x5) (ax_or (V 545 (V 554 x5)) (ax_or x4 0)) → k_Judge_findNeeds_263 B r d x1 x2 x3 x4 (x5 + 1) (some (ax_i 0)) V2 Φ Θ)) ∧ (¬ x3 = -1 → (0 ≤ x3 ∧ x3 < 350) ∧ (0 ≤ V 563 x3 ∧ V 563 x3 < 350) ∧ (0 ≤ x5 ∧ x5 < 350) ∧ (0 ≤ V 554 x5 ∧ V 554 x5 < 208) ∧ (0 ≤ V 554 x5 ∧ V 554 x5 < 208) ∧ (∀ V1, V1 = ax_u V 545 (V 554 x5) (ax_or (V 545 (V 554 x5)) (ax_or x4 (V 561 (V 563 x3)))) → k_Judge_findNeeds_263 B r d x1 x2 x3 x4 (x5 + 1) (some (ax_i (V 561 (V 563 x3)))) V1 Φ Θ)))))) : k_Judge_findNeeds_263 B r d x1 x2 x3 x4 x5 y6 V Φ Θ := by
  refine ax_mv 2 266 [some (.ref r), some (ax_i x1), some (ax_i x2), some (ax_i x3), some (ax_i x4), some (ax_i x5), y6] [.ref r, ax_i x5] rfl ?_
  refine ax_gR (v := .ref (B + 47)) (pc' := 269) ⟨_, rfl⟩ fl_3_35 (az_e 0 rfl) rfl rfl ?_
  refine ax_gR (v := .ref (B + 48)) (pc' := 272) ⟨_, rfl⟩ fl_3_97 (az_b 47 rfl) rfl rfl ?_
  refine ax_mv 2 274 [some (.ref r), some (ax_i x1), some (ax_i x2), some (ax_i x3), some (ax_i x4), some (ax_i x5), y6] [ax_i 1, ax_i x2, .ref (B + 48), ax_i x5] rfl ?_
  refine ax_add (pc' := 275) ⟨_, rfl⟩ rfl ?_
  obtain ⟨o20, h⟩ := h
  refine ax_ild (n := 351) (pc' := 276) ⟨_, rfl⟩ (az_b 48 rfl) (by decide) o20 rfl ?_
  refine ax_if2 (p1 := 339) (p2 := 279) ⟨_, rfl⟩ (by decide) rfl hx5 (hg _ _) (fun hc => ?_) (fun hc => ?_)
  · have h := h.1 hc
    refine ax_inc (x := x2) (pc' := 342) (L' := [some (.ref r), some (ax_i x1), some (ax_i (x2 + 1)), some (ax_i x3), some (ax_i x4), some (ax_i x5), y6]) ⟨_, rfl⟩ rfl rfl rfl rfl ?_
    refine ax_mv 1 118 [some (.ref r), some (ax_i x1), some (ax_i (x2 + 1)), some (ax_i x3), some (ax_i x4), some (ax_i x5), y6] [] rfl ?_
    exact h
  · have h := h.2 (Int.not_le.mp hc)
    refine ax_mv 2 281 [some (.ref r), some (ax_i x1), some (ax_i x2), some (ax_i x3), some (ax_i x4), some (ax_i x5), y6] [ax_i (-1), ax_i x3] rfl ?_
    refine ax_if2 (p1 := 288) (p2 := 284) ⟨_, rfl⟩ (by decide) rfl hx3 (by decide) (fun hc => ?_) (fun hc => ?_)
    · have h := h.2 hc
      refine ax_mv 1 289 [some (.ref r), some (ax_i x1), some (ax_i x2), some (ax_i x3), some (ax_i x4), some (ax_i x5), y6] [.ref r] rfl ?_
      refine ax_gR (v := .ref (B + 56)) (pc' := 292) ⟨_, rfl⟩ fl_3_40 (az_e 0 rfl) rfl rfl ?_
      refine ax_gR (v := .ref (B + 61)) (pc' := 295) ⟨_, rfl⟩ fl_3_287 (az_b 56 rfl) rfl rfl ?_
      refine ax_mv 1 296 [some (.ref r), some (ax_i x1), some (ax_i x2), some (ax_i x3), some (ax_i x4), some (ax_i x5), y6] [.ref r, .ref (B + 61)] rfl ?_
      refine ax_gR (v := .ref (B + 56)) (pc' := 299) ⟨_, rfl⟩ fl_3_40 (az_e 0 rfl) rfl rfl ?_
      refine ax_gR (v := .ref (B + 63)) (pc' := 302) ⟨_, rfl⟩ fl_3_115 (az_b 56 rfl) rfl rfl ?_
      refine ax_mv 1 303 [some (.ref r), some (ax_i x1), some (ax_i x2), some (ax_i x3), some (ax_i x4), some (ax_i x5), y6] [ax_i x3, .ref (B + 63), .ref (B + 61)] rfl ?_
      obtain ⟨o21, h⟩ := h
      refine ax_ild (n := 350) (pc' := 304) ⟨_, rfl⟩ (az_b 63 rfl) (by decide) o21 rfl ?_
      obtain ⟨o22, h⟩ := h
      refine ax_ild (n := 350) (pc' := 305) ⟨_, rfl⟩ (az_b 61 rfl) (by decide) o22 rfl ?_
      refine ax_sti (i := 0) (k := 6) (n := 2) (pc' := 307) (L' := [some (.ref r), some (ax_i x1), some (ax_i x2), some (ax_i x3), some (ax_i x4), some (ax_i x5), some (ax_i (V 561 (V 563 x3)))]) ⟨_, rfl⟩ rfl rfl rfl (Nat.le_of_ble_eq_true rfl) rfl rfl ?_
      refine ax_mv 1 308 [some (.ref r), some (ax_i x1), some (ax_i x2), some (ax_i x3), some (ax_i x4), some (ax_i x5), some (ax_i (V 561 (V 563 x3)))] [.ref r] rfl ?_
      refine ax_gR (v := .ref (B + 32)) (pc' := 311) ⟨_, rfl⟩ fl_3_30 (az_e 0 rfl) rfl rfl ?_
      refine ax_gR (v := .ref (B + 45)) (pc' := 314) ⟨_, rfl⟩ fl_3_281 (az_b 32 rfl) rfl rfl ?_
      refine ax_mv 1 315 [some (.ref r), some (ax_i x1), some (ax_i x2), some (ax_i x3), some (ax_i x4), some (ax_i x5), some (ax_i (V 561 (V 563 x3)))] [.ref r, .ref (B + 45)] rfl ?_
      refine ax_gR (v := .ref (B + 47)) (pc' := 318) ⟨_, rfl⟩ fl_3_35 (az_e 0 rfl) rfl rfl ?_
      refine ax_gR (v := .ref (B + 54)) (pc' := 321) ⟨_, rfl⟩ fl_3_102 (az_b 47 rfl) rfl rfl ?_
      refine ax_mv 1 323 [some (.ref r), some (ax_i x1), some (ax_i x2), some (ax_i x3), some (ax_i x4), some (ax_i x5), some (ax_i (V 561 (V 563 x3)))] [ax_i x5, .ref (B + 54), .ref (B + 45)] rfl ?_
      obtain ⟨o23, h⟩ := h
      refine ax_ild (n := 350) (pc' := 324) ⟨_, rfl⟩ (az_b 54 rfl) (by decide) o23 rfl ?_
      refine ax_mv 1 325 [some (.ref r), some (ax_i x1), some (ax_i x2), some (ax_i x3), some (ax_i x4), some (ax_i x5), some (ax_i (V 561 (V 563 x3)))] [ax_i (V 554 x5), .ref (B + 45), ax_i (V 554 x5), .ref (B + 45)] rfl ?_
      obtain ⟨o24, h⟩ := h
      refine ax_ild (n := 208) (pc' := 326) ⟨_, rfl⟩ (az_b 45 rfl) (by decide) o24 rfl ?_
      refine ax_mv 2 330 [some (.ref r), some (ax_i x1), some (ax_i x2), some (ax_i x3), some (ax_i x4), some (ax_i x5), some (ax_i (V 561 (V 563 x3)))] [ax_i (V 561 (V 563 x3)), ax_i x4, ax_i (V 545 (V 554 x5)), ax_i (V 554 x5), .ref (B + 45)] rfl ?_
      refine ax_ror (pc' := 331) ⟨_, rfl⟩ rfl ?_
      refine ax_ror (pc' := 332) ⟨_, rfl⟩ rfl ?_
      obtain ⟨o25, h⟩ := h
      obtain ⟨V1, eV1⟩ : ∃ W9 : ax_V, W9 = ax_u V 545 (V 554 x5) (ax_or (V 545 (V 554 x5)) (ax_or x4 (V 561 (V 563 x3)))) := ⟨_, rfl⟩
      have h := h V1 eV1
      have hg1 : ax_g V1 := eV1 ▸ ax_u_g hg (ax_rg_of _)
      refine ax_ist (n := 208) (pc' := 333) ⟨_, rfl⟩ az_ok (az_b 45 rfl) (by decide) o25 eV1 rfl ?_
      refine ax_inc (x := x5) (pc' := 336) (L' := [some (.ref r), some (ax_i x1), some (ax_i x2), some (ax_i x3), some (ax_i x4), some (ax_i (x5 + 1)), some (ax_i (V 561 (V 563 x3)))]) ⟨_, rfl⟩ rfl rfl rfl rfl ?_
      refine ax_mv 1 263 [some (.ref r), some (ax_i x1), some (ax_i x2), some (ax_i x3), some (ax_i x4), some (ax_i (x5 + 1)), some (ax_i (V 561 (V 563 x3)))] [] rfl ?_
      exact h
    · have h := h.1 (Classical.not_not.mp hc)
      refine ax_mv 2 305 [some (.ref r), some (ax_i x1), some (ax_i x2), some (ax_i x3), some (ax_i x4), some (ax_i x5), y6] [ax_i 0] rfl ?_
      refine ax_sti (i := 0) (k := 6) (n := 2) (pc' := 307) (L' := [some (.ref r), some (ax_i x1), some (ax_i x2), some (ax_i x3), some (ax_i x4), some (ax_i x5), some (ax_i 0)]) ⟨_, rfl⟩ rfl rfl rfl (Nat.le_of_ble_eq_true rfl) rfl rfl ?_
      refine ax_mv 1 308 [some (.ref r), some (ax_i x1), some (ax_i x2), some (ax_i x3), some (ax_i x4), some (ax_i x5), some (ax_i 0)] [.ref r] rfl ?_
      refine ax_gR (v := .ref (B + 32)) (pc' := 311) ⟨_, rfl⟩ fl_3_30 (az_e 0 rfl) rfl rfl ?_
      refine ax_gR (v := .ref (B + 45)) (pc' := 314) ⟨_, rfl⟩ fl_3_281 (az_b 32 rfl) rfl rfl ?_
      refine ax_mv 1 315 [some (.ref r), some (ax_i x1), some (ax_i x2), some (ax_i x3), some (ax_i x4), some (ax_i x5), some (ax_i 0)] [.ref r, .ref (B + 45)] rfl ?_
      refine ax_gR (v := .ref (B + 47)) (pc' := 318) ⟨_, rfl⟩ fl_3_35 (az_e 0 rfl) rfl rfl ?_
      refine ax_gR (v := .ref (B + 54)) (pc' := 321) ⟨_, rfl⟩ fl_3_102 (az_b 47 rfl) rfl rfl ?_
      refine ax_mv 1 323 [some (.ref r), some (ax_i x1), some (ax_i x2), some (ax_i x3), some (ax_i x4), some (ax_i x5), some (ax_i 0)] [ax_i x5, .ref (B + 54), .ref (B + 45)] rfl ?_
      obtain ⟨o26, h⟩ := h
      refine ax_ild (n := 350) (pc' := 324) ⟨_, rfl⟩ (az_b 54 rfl) (by decide) o26 rfl ?_
      refine ax_mv 1 325 [some (.ref r), some (ax_i x1), some (ax_i x2), some (ax_i x3), some (ax_i x4), some (ax_i x5), some (ax_i 0)] [ax_i (V 554 x5), .ref (B + 45), ax_i (V 554 x5), .ref (B + 45)] rfl ?_
      obtain ⟨o27, h⟩ := h
      refine ax_ild (n := 208) (pc' := 326) ⟨_, rfl⟩ (az_b 45 rfl) (by decide) o27 rfl ?_
      refine ax_mv 2 330 [some (.ref r), some (ax_i x1), some (ax_i x2), some (ax_i x3), some (ax_i x4), some (ax_i x5), some (ax_i 0)] [ax_i 0, ax_i x4, ax_i (V 545 (V 554 x5)), ax_i (V 554 x5), .ref (B + 45)] rfl ?_
      refine ax_ror (pc' := 331) ⟨_, rfl⟩ rfl ?_
      refine ax_ror (pc' := 332) ⟨_, rfl⟩ rfl ?_
      obtain ⟨o28, h⟩ := h
      obtain ⟨V2, eV2⟩ : ∃ W9 : ax_V, W9 = ax_u V 545 (V 554 x5) (ax_or (V 545 (V 554 x5)) (ax_or x4 0)) := ⟨_, rfl⟩
      have h := h V2 eV2
      have hg2 : ax_g V2 := eV2 ▸ ax_u_g hg (ax_rg_of _)
      refine ax_ist (n := 208) (pc' := 333) ⟨_, rfl⟩ az_ok (az_b 45 rfl) (by decide) o28 eV2 rfl ?_
      refine ax_inc (x := x5) (pc' := 336) (L' := [some (.ref r), some (ax_i x1), some (ax_i x2), some (ax_i x3), some (ax_i x4), some (ax_i (x5 + 1)), some (ax_i 0)]) ⟨_, rfl⟩ rfl rfl rfl rfl ?_
      refine ax_mv 1 263 [some (.ref r), some (ax_i x1), some (ax_i x2), some (ax_i x3), some (ax_i x4), some (ax_i (x5 + 1)), some (ax_i 0)] [] rfl ?_
      exact h
set_option maxRecDepth 20000 in
theorem r_Judge_findNeeds {B : Nat} {r : Nat} {d : Nat} {V : ax_V} {Φ : ax_V → Prop} {Θ : ax_V → Prop} {x1 : Int} (hg : ax_g V) (hx1 : ax_rg x1) (h : (0 ≤ x1 ∧ x1 < 9) ∧ k_Judge_findNeeds_10 B r d x1 (V 510 x1) none none none none V Φ Θ) : ax_N (az_W B (az_EJ B r)) (d + 1) q_Judge_findNeeds [.ref r, ax_i x1] V Φ Θ := by
  refine ax_T.of (M := m_Judge_findNeeds) rfl (Nat.le_of_ble_eq_true rfl) ?_
  refine ax_mv 0 0 [some (.ref r), some (ax_i x1), none, none, none, none, none] [] rfl ?_
  refine ax_mv 1 1 [some (.ref r), some (ax_i x1), none, none, none, none, none] [.ref r] rfl ?_
  refine ax_gR (v := .ref B) (pc' := 4) ⟨_, rfl⟩ fl_3_15 (az_e 0 rfl) rfl rfl ?_
  refine ax_gR (v := .ref (B + 10)) (pc' := 7) ⟨_, rfl⟩ fl_3_175 (az_b 0 rfl) rfl rfl ?_
  refine ax_mv 1 8 [some (.ref r), some (ax_i x1), none, none, none, none, none] [ax_i x1, .ref (B + 10)] rfl ?_
  obtain ⟨o29, h⟩ := h
  refine ax_ild (n := 9) (pc' := 9) ⟨_, rfl⟩ (az_b 10 rfl) (by decide) o29 rfl ?_
  refine ax_sti (i := 0) (k := 2) (n := 1) (pc' := 10) (L' := [some (.ref r), some (ax_i x1), some (ax_i (V 510 x1)), none, none, none, none]) ⟨_, rfl⟩ rfl rfl rfl (Nat.le_of_ble_eq_true rfl) rfl rfl ?_
  exact h
abbrev k_Judge_lettersIn_5 (B : Nat) (r : Nat) (d : Nat) (y1 : Option Value) (x2 : Int) (x3 : Int) (x4 : Int) (y5 : Option Value) (V : ax_V) (Φ : Int → ax_V → Prop) (Θ : ax_V → Prop) : Prop := ax_R (az_W B (az_EJ B r)) ax_t d m_Judge_lettersIn 5 [some (.ref r), y1, some (ax_i x2), some (ax_i x3), some (ax_i x4), y5] [] V (ax_Ir Φ) Θ
theorem r_Judge_lettersIn_5 {B : Nat} {r : Nat} {d : Nat} {V : ax_V} {Φ : Int → ax_V → Prop} {Θ : ax_V → Prop} {y1 : Option Value} {x2 : Int} {x3 : Int} {x4 : Int} {y5 : Option Value} (hg : ax_g V) (hy1 : ax_y y1) (hx2 : ax_rg x2) (hx3 : ax_rg x3) (hx4 : ax_rg x4) (hy5 : ax_y y5) (h : ((x2 < x4 → Φ x3 V) ∧ (x4 ≤ x2 → ax_I (az_W B (az_EJ B r)) d q_Parts_ownLetter [.ref (B + 16), ax_i x4] V (fun r1 V1 => ((r1 < 0 → k_Judge_lettersIn_5 B r d y1 x2 x3 (x4 + 1) (some (ax_i r1)) V1 Φ Θ) ∧ (0 ≤ r1 → (0 ≤ x4 ∧ x4 < 700) ∧ ((V1 526 x4 = 0 → ax_I (az_W B (az_EJ B r)) d q_Letters_bit [ax_i r1] V1 (fun r2 V2 => k_Judge_lettersIn_5 B r d y1 x2 (ax_or x3 r2) (x4 + 1) (some (ax_i r1)) V2 Φ Θ) (fun _ => False)) ∧ (¬ V1 526 x4 = 0 → k_Judge_lettersIn_5 B r d y1 x2 x3 (x4 + 1) (some (ax_i r1)) V1 Φ Θ))))) Θ))) : k_Judge_lettersIn_5 B r d y1 x2 x3 x4 y5 V Φ Θ := by
  refine ax_mv 2 8 [some (.ref r), y1, some (ax_i x2), some (ax_i x3), some (ax_i x4), y5] [ax_i x2, ax_i x4] rfl ?_
  refine ax_if2 (p1 := 54) (p2 := 11) ⟨_, rfl⟩ (by decide) rfl hx4 hx2 (fun hc => ?_) (fun hc => ?_)
  · have h := h.1 hc
    refine ax_mv 1 55 [some (.ref r), y1, some (ax_i x2), some (ax_i x3), some (ax_i x4), y5] [ax_i x3] rfl ?_
    exact ax_iret ⟨_, rfl⟩ rfl rfl hx3 hg h
  · have h := h.2 (Int.not_lt.mp hc)
    refine ax_mv 1 12 [some (.ref r), y1, some (ax_i x2), some (ax_i x3), some (ax_i x4), y5] [.ref r] rfl ?_
    refine ax_gR (v := .ref (B + 16)) (pc' := 15) ⟨_, rfl⟩ fl_3_25 (az_e 0 rfl) rfl rfl ?_
    refine ax_mv 1 17 [some (.ref r), y1, some (ax_i x2), some (ax_i x3), some (ax_i x4), y5] [ax_i x4, .ref (B + 16)] rfl ?_
    refine ax_callI (pc' := 20) ⟨_, rfl⟩ ml_3_269 (rest := []) rfl (fun ss hs => ⟨_, _, (az_b 16 rfl) ss hs⟩) (Nat.le_of_ble_eq_true rfl) rfl rfl h (fun r1 V1 hg1 hr1 h => ?_)
    refine ax_sti (i := 0) (k := 5) (n := 2) (pc' := 22) (L' := [some (.ref r), y1, some (ax_i x2), some (ax_i x3), some (ax_i x4), some (ax_i r1)]) ⟨_, rfl⟩ rfl rfl rfl (Nat.le_of_ble_eq_true rfl) rfl rfl ?_
    refine ax_mv 1 24 [some (.ref r), y1, some (ax_i x2), some (ax_i x3), some (ax_i x4), some (ax_i r1)] [ax_i r1] rfl ?_
    refine ax_if (p1 := 48) (p2 := 27) ⟨_, rfl⟩ (by decide) rfl hr1 (fun hc => ?_) (fun hc => ?_)
    · have h := h.1 hc
      refine ax_inc (x := x4) (pc' := 51) (L' := [some (.ref r), y1, some (ax_i x2), some (ax_i x3), some (ax_i (x4 + 1)), some (ax_i r1)]) ⟨_, rfl⟩ rfl rfl rfl rfl ?_
      refine ax_mv 1 5 [some (.ref r), y1, some (ax_i x2), some (ax_i x3), some (ax_i (x4 + 1)), some (ax_i r1)] [] rfl ?_
      exact h
    · have h := h.2 (Int.not_lt.mp hc)
      refine ax_mv 1 28 [some (.ref r), y1, some (ax_i x2), some (ax_i x3), some (ax_i x4), some (ax_i r1)] [.ref r] rfl ?_
      refine ax_gR (v := .ref (B + 16)) (pc' := 31) ⟨_, rfl⟩ fl_3_25 (az_e 0 rfl) rfl rfl ?_
      refine ax_gR (v := .ref (B + 26)) (pc' := 34) ⟨_, rfl⟩ fl_3_275 (az_b 16 rfl) rfl rfl ?_
      refine ax_mv 1 36 [some (.ref r), y1, some (ax_i x2), some (ax_i x3), some (ax_i x4), some (ax_i r1)] [ax_i x4, .ref (B + 26)] rfl ?_
      obtain ⟨o1, h⟩ := h
      refine ax_bld (n := 700) (pc' := 37) ⟨_, rfl⟩ (az_b 26 rfl) (by decide) o1 rfl ?_
      refine ax_if (p1 := 48) (p2 := 40) ⟨_, rfl⟩ (by decide) rfl (hg1 _ _) (fun hc => ?_) (fun hc => ?_)
      · have h := h.2 hc
        refine ax_inc (x := x4) (pc' := 51) (L' := [some (.ref r), y1, some (ax_i x2), some (ax_i x3), some (ax_i (x4 + 1)), some (ax_i r1)]) ⟨_, rfl⟩ rfl rfl rfl rfl ?_
        refine ax_mv 1 5 [some (.ref r), y1, some (ax_i x2), some (ax_i x3), some (ax_i (x4 + 1)), some (ax_i r1)] [] rfl ?_
        exact h
      · have h := h.1 (Classical.not_not.mp hc)
        refine ax_mv 2 43 [some (.ref r), y1, some (ax_i x2), some (ax_i x3), some (ax_i x4), some (ax_i r1)] [ax_i r1, ax_i x3] rfl ?_
        refine ax_callS (pc' := 46) ⟨_, rfl⟩ ml_3_130 (Nat.le_of_ble_eq_true rfl) (Nat.le_of_ble_eq_true rfl) rfl h (fun r2 V2 hg2 hr2 h => ?_)
        refine ax_mv 0 46 [some (.ref r), y1, some (ax_i x2), some (ax_i x3), some (ax_i x4), some (ax_i r1)] [ax_i r2, ax_i x3] rfl ?_
        refine ax_ror (pc' := 47) ⟨_, rfl⟩ rfl ?_
        refine ax_sti (i := 0) (k := 3) (n := 1) (pc' := 48) (L' := [some (.ref r), y1, some (ax_i x2), some (ax_i (ax_or x3 r2)), some (ax_i x4), some (ax_i r1)]) ⟨_, rfl⟩ rfl rfl rfl (Nat.le_of_ble_eq_true rfl) rfl rfl ?_
        refine ax_inc (x := x4) (pc' := 51) (L' := [some (.ref r), y1, some (ax_i x2), some (ax_i (ax_or x3 r2)), some (ax_i (x4 + 1)), some (ax_i r1)]) ⟨_, rfl⟩ rfl rfl rfl rfl ?_
        refine ax_mv 1 5 [some (.ref r), y1, some (ax_i x2), some (ax_i (ax_or x3 r2)), some (ax_i (x4 + 1)), some (ax_i r1)] [] rfl ?_
        exact h
theorem r_Judge_lettersIn {B : Nat} {r : Nat} {d : Nat} {V : ax_V} {Φ : Int → ax_V → Prop} {Θ : ax_V → Prop} {x1 : Int} {x2 : Int} (hg : ax_g V) (hx1 : ax_rg x1) (hx2 : ax_rg x2) (h : k_Judge_lettersIn_5 B r d (some (ax_i x1)) x2 0 x1 none V Φ Θ) : ax_I (az_W B (az_EJ B r)) (d + 1) q_Judge_lettersIn [.ref r, ax_i x1, ax_i x2] V Φ Θ := by
  refine ax_T.of (M := m_Judge_lettersIn) rfl (Nat.le_of_ble_eq_true rfl) ?_
  refine ax_mv 0 0 [some (.ref r), some (ax_i x1), some (ax_i x2), none, none, none] [] rfl ?_
  refine ax_mv 1 1 [some (.ref r), some (ax_i x1), some (ax_i x2), none, none, none] [ax_i 0] rfl ?_
  refine ax_sti (i := 0) (k := 3) (n := 1) (pc' := 2) (L' := [some (.ref r), some (ax_i x1), some (ax_i x2), some (ax_i 0), none, none]) ⟨_, rfl⟩ rfl rfl rfl (Nat.le_of_ble_eq_true rfl) rfl rfl ?_
  refine ax_mv 1 3 [some (.ref r), some (ax_i x1), some (ax_i x2), some (ax_i 0), none, none] [ax_i x1] rfl ?_
  refine ax_sti (i := 0) (k := 4) (n := 2) (pc' := 5) (L' := [some (.ref r), some (ax_i x1), some (ax_i x2), some (ax_i 0), some (ax_i x1), none]) ⟨_, rfl⟩ rfl rfl rfl (Nat.le_of_ble_eq_true rfl) rfl rfl ?_
  exact h
