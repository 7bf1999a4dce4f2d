/-! RULES of the model's methods: a method each, and each loop of it. PRINTED by wip/gen/rules.py -/
abbrev k_Model_checkFirsts_6 (d : Nat) (x1 : Int) (y2 : Option Value) (y3 : Option Value) (y4 : Option Value) (y5 : Option Value) (V : ax_V) (Φ : ax_V → Prop) (Θ : ax_V → Prop) : Prop := ax_R ay_lay ax_t d m_Model_checkFirsts 6 [some (.ref 222), some (ax_i x1), y2, y3, y4, y5] [] V (ax_Nr Φ) Θ
abbrev k_Model_checkFirsts_27 (d : Nat) (x1 : Int) (y2 : Option Value) (y3 : Option Value) (y4 : Option Value) (y5 : Option Value) (V : ax_V) (Φ : ax_V → Prop) (Θ : ax_V → Prop) : Prop := ax_R ay_lay ax_t d m_Model_checkFirsts 27 [some (.ref 222), some (ax_i x1), y2, y3, y4, y5] [] V (ax_Nr Φ) Θ
abbrev k_Model_checkFirsts_65 (d : Nat) (x1 : Int) (y2 : Option Value) (y3 : Option Value) (y4 : Option Value) (y5 : Option Value) (V : ax_V) (Φ : ax_V → Prop) (Θ : ax_V → Prop) : Prop := ax_R ay_lay ax_t d m_Model_checkFirsts 65 [some (.ref 222), some (ax_i x1), y2, y3, y4, y5] [] V (ax_Nr Φ) Θ
abbrev k_Model_checkFirsts_91 (d : Nat) (x1 : Int) (y2 : Option Value) (y3 : Option Value) (y4 : Option Value) (y5 : Option Value) (V : ax_V) (Φ : ax_V → Prop) (Θ : ax_V → Prop) : Prop := ax_R ay_lay ax_t d m_Model_checkFirsts 91 [some (.ref 222), some (ax_i x1), y2, y3, y4, y5] [] V (ax_Nr Φ) Θ
abbrev k_Model_checkFirsts_126 (d : Nat) (x1 : Int) (x2 : Int) (y3 : Option Value) (y4 : Option Value) (y5 : Option Value) (V : ax_V) (Φ : ax_V → Prop) (Θ : ax_V → Prop) : Prop := ax_R ay_lay ax_t d m_Model_checkFirsts 126 [some (.ref 222), some (ax_i x1), some (ax_i x2), y3, y4, y5] [] V (ax_Nr Φ) Θ
abbrev k_Model_checkFirsts_166 (d : Nat) (x1 : Int) (x2 : Int) (x3 : Int) (x4 : Int) (x5 : Int) (V : ax_V) (Φ : ax_V → Prop) (Θ : ax_V → Prop) : Prop := ax_R ay_lay ax_t d m_Model_checkFirsts 166 [some (.ref 222), some (ax_i x1), some (ax_i x2), some (ax_i x3), some (ax_i x4), some (ax_i x5)] [] V (ax_Nr Φ) Θ
set_option maxRecDepth 20000 in
theorem r_Model_checkFirsts_6 {d : Nat} {V : ax_V} {Φ : ax_V → Prop} {Θ : ax_V → Prop} {x1 : Int} {y2 : Option Value} {y3 : Option Value} {y4 : Option Value} {y5 : Option Value} (hg : ax_g V) (hx1 : ax_rg x1) (hy2 : ax_y y2) (hy3 : ax_y y3) (hy4 : ax_y y4) (hy5 : ax_y y5) (h : ((V 222 26 ≤ x1 → k_Model_checkFirsts_27 d 0 y2 y3 y4 y5 V Φ Θ) ∧ (x1 < V 222 26 → ax_N ay_lay d q_Model_checkFirst [.ref 222, ax_i x1] V (fun V1 => k_Model_checkFirsts_6 d (x1 + 1) y2 y3 y4 y5 V1 Φ Θ) Θ))) : k_Model_checkFirsts_6 d x1 y2 y3 y4 y5 V Φ Θ := by
  refine ax_mv 2 8 [some (.ref 222), some (ax_i x1), y2, y3, y4, y5] [.ref 222, ax_i x1] rfl ?_
  refine ax_gI (kI := 26) (pc' := 11) ⟨_, rfl⟩ fl_12_317 ay_222 rfl rfl rfl ?_
  refine ax_if2 (p1 := 25) (p2 := 14) ⟨_, rfl⟩ (by decide) rfl hx1 (hg _ _) (fun hc => ?_) (fun hc => ?_)
  · have h := h.1 hc
    refine ax_mv 1 26 [some (.ref 222), some (ax_i x1), y2, y3, y4, y5] [ax_i 0] rfl ?_
    refine ax_sti (i := 0) (k := 1) (n := 1) (pc' := 27) (L' := [some (.ref 222), some (ax_i 0), y2, y3, y4, y5]) ⟨_, rfl⟩ rfl rfl rfl (Nat.le_of_ble_eq_true rfl) rfl rfl ?_
    exact h
  · have h := h.2 (Int.not_le.mp hc)
    refine ax_mv 2 16 [some (.ref 222), some (ax_i x1), y2, y3, y4, y5] [ax_i x1, .ref 222] rfl ?_
    refine ax_callN (pc' := 19) ⟨_, rfl⟩ ml_12_516 (rest := []) rfl (fun ss hs => ⟨_, _, ay_222 ss hs⟩) (Nat.le_of_ble_eq_true rfl) rfl rfl h (fun V1 hg1 h => ?_)
    refine ax_inc (x := x1) (pc' := 22) (L' := [some (.ref 222), some (ax_i (x1 + 1)), y2, y3, y4, y5]) ⟨_, rfl⟩ rfl rfl rfl rfl ?_
    refine ax_mv 1 6 [some (.ref 222), some (ax_i (x1 + 1)), y2, y3, y4, y5] [] rfl ?_
    exact h
set_option maxRecDepth 20000 in
theorem r_Model_checkFirsts_27 {d : Nat} {V : ax_V} {Φ : ax_V → Prop} {Θ : ax_V → Prop} {x1 : Int} {y2 : Option Value} {y3 : Option Value} {y4 : Option Value} {y5 : Option Value} (hg : ax_g V) (hx1 : ax_rg x1) (hy2 : ax_y y2) (hy3 : ax_y y3) (hy4 : ax_y y4) (hy5 : ax_y y5) (h : ((V 222 77 ≤ x1 → k_Model_checkFirsts_65 d 0 y2 y3 y4 y5 V Φ Θ) ∧ (x1 < V 222 77 → (0 ≤ x1 ∧ x1 < 240) ∧ (0 ≤ x1 ∧ x1 < 240) ∧ (0 ≤ x1 ∧ x1 < 240) ∧ ax_N ay_lay d q_Model_letterMustHave [.ref 222, ax_i (V 281 x1), ax_i (V 279 x1), ax_i (V 280 x1)] V (fun V1 => k_Model_checkFirsts_27 d (x1 + 1) y2 y3 y4 y5 V1 Φ Θ) Θ))) : k_Model_checkFirsts_27 d x1 y2 y3 y4 y5 V Φ Θ := by
  refine ax_mv 2 29 [some (.ref 222), some (ax_i x1), y2, y3, y4, y5] [.ref 222, ax_i x1] rfl ?_
  refine ax_gI (kI := 77) (pc' := 32) ⟨_, rfl⟩ fl_12_441 ay_222 rfl rfl rfl ?_
  refine ax_if2 (p1 := 63) (p2 := 35) ⟨_, rfl⟩ (by decide) rfl hx1 (hg _ _) (fun hc => ?_) (fun hc => ?_)
  · have h := h.1 hc
    refine ax_mv 1 64 [some (.ref 222), some (ax_i x1), y2, y3, y4, y5] [ax_i 0] rfl ?_
    refine ax_sti (i := 0) (k := 1) (n := 1) (pc' := 65) (L' := [some (.ref 222), some (ax_i 0), y2, y3, y4, y5]) ⟨_, rfl⟩ rfl rfl rfl (Nat.le_of_ble_eq_true rfl) rfl rfl ?_
    exact h
  · have h := h.2 (Int.not_le.mp hc)
    refine ax_mv 2 37 [some (.ref 222), some (ax_i x1), y2, y3, y4, y5] [.ref 222, .ref 222] rfl ?_
    refine ax_gR (v := .ref 281) (pc' := 40) ⟨_, rfl⟩ fl_12_185 ay_222 rfl rfl ?_
    refine ax_mv 1 41 [some (.ref 222), some (ax_i x1), y2, y3, y4, y5] [ax_i x1, .ref 281, .ref 222] rfl ?_
    obtain ⟨o1, h⟩ := h
    refine ax_ild (n := 240) (pc' := 42) ⟨_, rfl⟩ ay_281 (by decide) o1 rfl ?_
    refine ax_mv 1 43 [some (.ref 222), some (ax_i x1), y2, y3, y4, y5] [.ref 222, ax_i (V 281 x1), .ref 222] rfl ?_
    refine ax_gR (v := .ref 279) (pc' := 46) ⟨_, rfl⟩ fl_12_179 ay_222 rfl rfl ?_
    refine ax_mv 1 47 [some (.ref 222), some (ax_i x1), y2, y3, y4, y5] [ax_i x1, .ref 279, ax_i (V 281 x1), .ref 222] rfl ?_
    obtain ⟨o2, h⟩ := h
    refine ax_ild (n := 240) (pc' := 48) ⟨_, rfl⟩ ay_279 (by decide) o2 rfl ?_
    refine ax_mv 1 49 [some (.ref 222), some (ax_i x1), y2, y3, y4, y5] [.ref 222, ax_i (V 279 x1), ax_i (V 281 x1), .ref 222] rfl ?_
    refine ax_gR (v := .ref 280) (pc' := 52) ⟨_, rfl⟩ fl_12_182 ay_222 rfl rfl ?_
    refine ax_mv 1 53 [some (.ref 222), some (ax_i x1), y2, y3, y4, y5] [ax_i x1, .ref 280, ax_i (V 279 x1), ax_i (V 281 x1), .ref 222] rfl ?_
    obtain ⟨o3, h⟩ := h
    refine ax_ild (n := 240) (pc' := 54) ⟨_, rfl⟩ ay_280 (by decide) o3 rfl ?_
    refine ax_callN (pc' := 57) ⟨_, rfl⟩ ml_12_509 (rest := []) rfl (fun ss hs => ⟨_, _, ay_222 ss hs⟩) (Nat.le_of_ble_eq_true rfl) rfl rfl h (fun V1 hg1 h => ?_)
    refine ax_inc (x := x1) (pc' := 60) (L' := [some (.ref 222), some (ax_i (x1 + 1)), y2, y3, y4, y5]) ⟨_, rfl⟩ rfl rfl rfl rfl ?_
    refine ax_mv 1 27 [some (.ref 222), some (ax_i (x1 + 1)), y2, y3, y4, y5] [] rfl ?_
    exact h
set_option maxRecDepth 20000 in
theorem r_Model_checkFirsts_65 {d : Nat} {V : ax_V} {Φ : ax_V → Prop} {Θ : ax_V → Prop} {x1 : Int} {y2 : Option Value} {y3 : Option Value} {y4 : Option Value} {y5 : Option Value} (hg : ax_g V) (hx1 : ax_rg x1) (hy2 : ax_y y2) (hy3 : ax_y y3) (hy4 : ax_y y4) (hy5 : ax_y y5) (h : ((V 222 60 ≤ x1 → k_Model_checkFirsts_91 d 0 y2 y3 y4 y5 V Φ Θ) ∧ (x1 < V 222 60 → (0 ≤ x1 ∧ x1 < 351) ∧ ax_N ay_lay d q_Model_mustHave [.ref 222, ax_i (V 277 x1)] V (fun V1 => k_Model_checkFirsts_65 d (x1 + 1) y2 y3 y4 y5 V1 Φ Θ) Θ))) : k_Model_checkFirsts_65 d x1 y2 y3 y4 y5 V Φ Θ := by
  refine ax_mv 2 67 [some (.ref 222), some (ax_i x1), y2, y3, y4, y5] [.ref 222, ax_i x1] rfl ?_
  refine ax_gI (kI := 60) (pc' := 70) ⟨_, rfl⟩ fl_12_420 ay_222 rfl rfl rfl ?_
  refine ax_if2 (p1 := 89) (p2 := 73) ⟨_, rfl⟩ (by decide) rfl hx1 (hg _ _) (fun hc => ?_) (fun hc => ?_)
  · have h := h.1 hc
    refine ax_mv 1 90 [some (.ref 222), some (ax_i x1), y2, y3, y4, y5] [ax_i 0] rfl ?_
    refine ax_sti (i := 0) (k := 1) (n := 1) (pc' := 91) (L' := [some (.ref 222), some (ax_i 0), y2, y3, y4, y5]) ⟨_, rfl⟩ rfl rfl rfl (Nat.le_of_ble_eq_true rfl) rfl rfl ?_
    exact h
  · have h := h.2 (Int.not_le.mp hc)
    refine ax_mv 2 75 [some (.ref 222), some (ax_i x1), y2, y3, y4, y5] [.ref 222, .ref 222] rfl ?_
    refine ax_gR (v := .ref 277) (pc' := 78) ⟨_, rfl⟩ fl_12_173 ay_222 rfl rfl ?_
    refine ax_mv 1 79 [some (.ref 222), some (ax_i x1), y2, y3, y4, y5] [ax_i x1, .ref 277, .ref 222] rfl ?_
    obtain ⟨o4, h⟩ := h
    refine ax_ild (n := 351) (pc' := 80) ⟨_, rfl⟩ ay_277 (by decide) o4 rfl ?_
    refine ax_callN (pc' := 83) ⟨_, rfl⟩ ml_12_506 (rest := []) rfl (fun ss hs => ⟨_, _, ay_222 ss hs⟩) (Nat.le_of_ble_eq_true rfl) rfl rfl h (fun V1 hg1 h => ?_)
    refine ax_inc (x := x1) (pc' := 86) (L' := [some (.ref 222), some (ax_i (x1 + 1)), y2, y3, y4, y5]) ⟨_, rfl⟩ rfl rfl rfl rfl ?_
    refine ax_mv 1 65 [some (.ref 222), some (ax_i (x1 + 1)), y2, y3, y4, y5] [] rfl ?_
    exact h
set_option maxRecDepth 20000 in
theorem r_Model_checkFirsts_91 {d : Nat} {V : ax_V} {Φ : ax_V → Prop} {Θ : ax_V → Prop} {x1 : Int} {y2 : Option Value} {y3 : Option Value} {y4 : Option Value} {y5 : Option Value} (hg : ax_g V) (hx1 : ax_rg x1) (hy2 : ax_y y2) (hy3 : ax_y y3) (hy4 : ax_y y4) (hy5 : ax_y y5) (h : ((V 222 44 ≤ x1 → Φ V) ∧ (x1 < V 222 44 → (0 ≤ x1 ∧ x1 < 351) ∧ ((V 263 x1 = -1 → (0 ≤ x1 ∧ x1 < 351) ∧ k_Model_checkFirsts_126 d x1 (V 259 x1) y3 y4 y5 V Φ Θ) ∧ (¬ V 263 x1 = -1 → (0 ≤ x1 ∧ x1 < 351) ∧ ax_N ay_lay d q_Model_mustHave [.ref 222, ax_i (V 262 x1)] V (fun V1 => (0 ≤ x1 ∧ x1 < 351) ∧ k_Model_checkFirsts_126 d x1 (V1 259 x1) y3 y4 y5 V1 Φ Θ) Θ))))) : k_Model_checkFirsts_91 d x1 y2 y3 y4 y5 V Φ Θ := by
  refine ax_mv 2 93 [some (.ref 222), some (ax_i x1), y2, y3, y4, y5] [.ref 222, ax_i x1] rfl ?_
  refine ax_gI (kI := 44) (pc' := 96) ⟨_, rfl⟩ fl_12_414 ay_222 rfl rfl rfl ?_
  refine ax_if2 (p1 := 281) (p2 := 99) ⟨_, rfl⟩ (by decide) rfl hx1 (hg _ _) (fun hc => ?_) (fun hc => ?_)
  · have h := h.1 hc
    exact ax_nret ⟨_, rfl⟩ rfl hg h
  · have h := h.2 (Int.not_le.mp hc)
    refine ax_mv 1 100 [some (.ref 222), some (ax_i x1), y2, y3, y4, y5] [.ref 222] rfl ?_
    refine ax_gR (v := .ref 263) (pc' := 103) ⟨_, rfl⟩ fl_12_131 ay_222 rfl rfl ?_
    refine ax_mv 1 104 [some (.ref 222), some (ax_i x1), y2, y3, y4, y5] [ax_i x1, .ref 263] rfl ?_
    obtain ⟨o5, h⟩ := h
    refine ax_ild (n := 351) (pc' := 105) ⟨_, rfl⟩ ay_263 (by decide) o5 rfl ?_
    refine ax_mv 1 106 [some (.ref 222), some (ax_i x1), y2, y3, y4, y5] [ax_i (-1), ax_i (V 263 x1)] rfl ?_
    refine ax_if2 (p1 := 119) (p2 := 109) ⟨_, rfl⟩ (by decide) rfl (hg _ _) (by decide) (fun hc => ?_) (fun hc => ?_)
    · have h := h.1 hc
      refine ax_mv 1 120 [some (.ref 222), some (ax_i x1), y2, y3, y4, y5] [.ref 222] rfl ?_
      refine ax_gR (v := .ref 259) (pc' := 123) ⟨_, rfl⟩ fl_12_119 ay_222 rfl rfl ?_
      refine ax_mv 1 124 [some (.ref 222), some (ax_i x1), y2, y3, y4, y5] [ax_i x1, .ref 259] rfl ?_
      obtain ⟨o6, h⟩ := h
      refine ax_ild (n := 351) (pc' := 125) ⟨_, rfl⟩ ay_259 (by decide) o6 rfl ?_
      refine ax_sti (i := 0) (k := 2) (n := 1) (pc' := 126) (L' := [some (.ref 222), some (ax_i x1), some (ax_i (V 259 x1)), y3, y4, y5]) ⟨_, rfl⟩ rfl rfl rfl (Nat.le_of_ble_eq_true rfl) rfl rfl ?_
      exact h
    · have h := h.2 hc
      refine ax_mv 2 111 [some (.ref 222), some (ax_i x1), y2, y3, y4, y5] [.ref 222, .ref 222] rfl ?_
      refine ax_gR (v := .ref 262) (pc' := 114) ⟨_, rfl⟩ fl_12_128 ay_222 rfl rfl ?_
      refine ax_mv 1 115 [some (.ref 222), some (ax_i x1), y2, y3, y4, y5] [ax_i x1, .ref 262, .ref 222] rfl ?_
      obtain ⟨o7, h⟩ := h
      refine ax_ild (n := 351) (pc' := 116) ⟨_, rfl⟩ ay_262 (by decide) o7 rfl ?_
      refine ax_callN (pc' := 119) ⟨_, rfl⟩ ml_12_506 (rest := []) rfl (fun ss hs => ⟨_, _, ay_222 ss hs⟩) (Nat.le_of_ble_eq_true rfl) rfl rfl h (fun V1 hg1 h => ?_)
      refine ax_mv 1 120 [some (.ref 222), some (ax_i x1), y2, y3, y4, y5] [.ref 222] rfl ?_
      refine ax_gR (v := .ref 259) (pc' := 123) ⟨_, rfl⟩ fl_12_119 ay_222 rfl rfl ?_
      refine ax_mv 1 124 [some (.ref 222), some (ax_i x1), y2, y3, y4, y5] [ax_i x1, .ref 259] rfl ?_
      obtain ⟨o8, h⟩ := h
      refine ax_ild (n := 351) (pc' := 125) ⟨_, rfl⟩ ay_259 (by decide) o8 rfl ?_
      refine ax_sti (i := 0) (k := 2) (n := 1) (pc' := 126) (L' := [some (.ref 222), some (ax_i x1), some (ax_i (V1 259 x1)), y3, y4, y5]) ⟨_, rfl⟩ rfl rfl rfl (Nat.le_of_ble_eq_true rfl) rfl rfl ?_
      exact h
set_option maxRecDepth 20000 in
theorem r_Model_checkFirsts_126 {d : Nat} {V : ax_V} {Φ : ax_V → Prop} {Θ : ax_V → Prop} {x1 : Int} {x2 : Int} {y3 : Option Value} {y4 : Option Value} {y5 : Option Value} (hg : ax_g V) (hx1 : ax_rg x1) (hx2 : ax_rg x2) (hy3 : ax_y y3) (hy4 : ax_y y4) (hy5 : ax_y y5) (h : (0 ≤ x1 ∧ x1 < 351) ∧ (0 ≤ x1 ∧ x1 < 351) ∧ ax_rg ((V 259 x1) + (V 260 x1)) ∧ (((V 259 x1) + (V 260 x1) ≤ x2 → k_Model_checkFirsts_91 d (x1 + 1) (some (ax_i x2)) y3 y4 y5 V Φ Θ) ∧ (x2 < (V 259 x1) + (V 260 x1) → (0 ≤ x1 ∧ x1 < 351) ∧ (0 ≤ x2 ∧ x2 < 701) ∧ k_Model_checkFirsts_166 d x1 x2 ((26 * (V 258 x1)) + (V 265 x2)) 1 0 V Φ Θ))) : k_Model_checkFirsts_126 d x1 x2 y3 y4 y5 V Φ Θ := by
  refine ax_mv 2 128 [some (.ref 222), some (ax_i x1), some (ax_i x2), y3, y4, y5] [.ref 222, ax_i x2] rfl ?_
  refine ax_gR (v := .ref 259) (pc' := 131) ⟨_, rfl⟩ fl_12_119 ay_222 rfl rfl ?_
  refine ax_mv 1 132 [some (.ref 222), some (ax_i x1), some (ax_i x2), y3, y4, y5] [ax_i x1, .ref 259, ax_i x2] rfl ?_
  obtain ⟨o9, h⟩ := h
  refine ax_ild (n := 351) (pc' := 133) ⟨_, rfl⟩ ay_259 (by decide) o9 rfl ?_
  refine ax_mv 1 134 [some (.ref 222), some (ax_i x1), some (ax_i x2), y3, y4, y5] [.ref 222, ax_i (V 259 x1), ax_i x2] rfl ?_
  refine ax_gR (v := .ref 260) (pc' := 137) ⟨_, rfl⟩ fl_12_122 ay_222 rfl rfl ?_
  refine ax_mv 1 138 [some (.ref 222), some (ax_i x1), some (ax_i x2), y3, y4, y5] [ax_i x1, .ref 260, ax_i (V 259 x1), ax_i x2] rfl ?_
  obtain ⟨o10, h⟩ := h
  refine ax_ild (n := 351) (pc' := 139) ⟨_, rfl⟩ ay_260 (by decide) o10 rfl ?_
  refine ax_add (pc' := 140) ⟨_, rfl⟩ rfl ?_
  obtain ⟨o11, h⟩ := h
  refine ax_if2 (p1 := 275) (p2 := 143) ⟨_, rfl⟩ (by decide) rfl hx2 o11 (fun hc => ?_) (fun hc => ?_)
  · have h := h.1 hc
    refine ax_inc (x := x1) (pc' := 278) (L' := [some (.ref 222), some (ax_i (x1 + 1)), some (ax_i x2), y3, y4, y5]) ⟨_, rfl⟩ rfl rfl rfl rfl ?_
    refine ax_mv 1 91 [some (.ref 222), some (ax_i (x1 + 1)), some (ax_i x2), y3, y4, y5] [] rfl ?_
    exact h
  · have h := h.2 (Int.not_le.mp hc)
    refine ax_bip (pc' := 145) ⟨_, rfl⟩ (by decide) rfl ?_
    refine ax_mv 1 146 [some (.ref 222), some (ax_i x1), some (ax_i x2), y3, y4, y5] [.ref 222, ax_i 26] rfl ?_
    refine ax_gR (v := .ref 258) (pc' := 149) ⟨_, rfl⟩ fl_12_116 ay_222 rfl rfl ?_
    refine ax_mv 1 150 [some (.ref 222), some (ax_i x1), some (ax_i x2), y3, y4, y5] [ax_i x1, .ref 258, ax_i 26] rfl ?_
    obtain ⟨o12, h⟩ := h
    refine ax_ild (n := 351) (pc' := 151) ⟨_, rfl⟩ ay_258 (by decide) o12 rfl ?_
    refine ax_mul (pc' := 152) ⟨_, rfl⟩ rfl ?_
    refine ax_mv 1 153 [some (.ref 222), some (ax_i x1), some (ax_i x2), y3, y4, y5] [.ref 222, ax_i (26 * (V 258 x1))] rfl ?_
    refine ax_gR (v := .ref 265) (pc' := 156) ⟨_, rfl⟩ fl_12_137 ay_222 rfl rfl ?_
    refine ax_mv 1 157 [some (.ref 222), some (ax_i x1), some (ax_i x2), y3, y4, y5] [ax_i x2, .ref 265, ax_i (26 * (V 258 x1))] rfl ?_
    obtain ⟨o13, h⟩ := h
    refine ax_ild (n := 701) (pc' := 158) ⟨_, rfl⟩ ay_265 (by decide) o13 rfl ?_
    refine ax_add (pc' := 159) ⟨_, rfl⟩ rfl ?_
    refine ax_sti (i := 0) (k := 3) (n := 1) (pc' := 160) (L' := [some (.ref 222), some (ax_i x1), some (ax_i x2), some (ax_i ((26 * (V 258 x1)) + (V 265 x2))), y4, y5]) ⟨_, rfl⟩ rfl rfl rfl (Nat.le_of_ble_eq_true rfl) rfl rfl ?_
    refine ax_mv 1 161 [some (.ref 222), some (ax_i x1), some (ax_i x2), some (ax_i ((26 * (V 258 x1)) + (V 265 x2))), y4, y5] [ax_i 1] rfl ?_
    refine ax_sti (i := 0) (k := 4) (n := 2) (pc' := 163) (L' := [some (.ref 222), some (ax_i x1), some (ax_i x2), some (ax_i ((26 * (V 258 x1)) + (V 265 x2))), some (ax_i 1), y5]) ⟨_, rfl⟩ rfl rfl rfl (Nat.le_of_ble_eq_true rfl) rfl rfl ?_
    refine ax_mv 1 164 [some (.ref 222), some (ax_i x1), some (ax_i x2), some (ax_i ((26 * (V 258 x1)) + (V 265 x2))), some (ax_i 1), y5] [ax_i 0] rfl ?_
    refine ax_sti (i := 0) (k := 5) (n := 2) (pc' := 166) (L' := [some (.ref 222), some (ax_i x1), some (ax_i x2), some (ax_i ((26 * (V 258 x1)) + (V 265 x2))), some (ax_i 1), some (ax_i 0)]) ⟨_, rfl⟩ rfl rfl rfl (Nat.le_of_ble_eq_true rfl) rfl rfl ?_
    exact h
set_option maxRecDepth 20000 in
theorem r_Model_checkFirsts_166 {d : Nat} {V : ax_V} {Φ : ax_V → Prop} {Θ : ax_V → Prop} {x1 : Int} {x2 : Int} {x3 : Int} {x4 : Int} {x5 : Int} (hg : ax_g V) (hx1 : ax_rg x1) (hx2 : ax_rg x2) (hx3 : ax_rg x3) (hx4 : ax_rg x4) (hx5 : ax_rg x5) (h : ((x2 ≤ x5 → ((x4 = 0 → k_Model_checkFirsts_126 d x1 (x2 + 1) (some (ax_i x3)) (some (ax_i x4)) (some (ax_i x5)) V Φ Θ) ∧ (¬ x4 = 0 → (0 ≤ x3 ∧ x3 < 240) ∧ ((V 232 x3 = 2 → (0 ≤ x3 ∧ x3 < 240) ∧ ((V 282 x3 = 0 → (0 ≤ x2 ∧ x2 < 701) ∧ ax_N ay_lay d q_Model_note [.ref 222, ax_i (V 266 x2)] V (fun V1 => k_Model_checkFirsts_126 d x1 (x2 + 1) (some (ax_i x3)) (some (ax_i x4)) (some (ax_i x5)) V1 Φ Θ) Θ) ∧ (¬ V 282 x3 = 0 → k_Model_checkFirsts_126 d x1 (x2 + 1) (some (ax_i x3)) (some (ax_i x4)) (some (ax_i x5)) V Φ Θ))) ∧ (¬ V 232 x3 = 2 → (0 ≤ x3 ∧ x3 < 240) ∧ ((V 236 x3 = 0 → k_Model_checkFirsts_126 d x1 (x2 + 1) (some (ax_i x3)) (some (ax_i x4)) (some (ax_i x5)) V Φ Θ) ∧ (¬ V 236 x3 = 0 → (0 ≤ x3 ∧ x3 < 240) ∧ ((V 282 x3 = 0 → (0 ≤ x2 ∧ x2 < 701) ∧ ax_N ay_lay d q_Model_note [.ref 222, ax_i (V 266 x2)] V (fun V2 => k_Model_checkFirsts_126 d x1 (x2 + 1) (some (ax_i x3)) (some (ax_i x4)) (some (ax_i x5)) V2 Φ Θ) Θ) ∧ (¬ V 282 x3 = 0 → k_Model_checkFirsts_126 d x1 (x2 + 1) (some (ax_i x3)) (some (ax_i x4)) (some (ax_i x5)) V Φ Θ))))))))) ∧ (x5 < x2 → ((x4 = 0 → k_Model_checkFirsts_166 d x1 x2 x3 0 (x5 + 1) V Φ Θ) ∧ (¬ x4 = 0 → (0 ≤ x5 ∧ x5 < 701) ∧ (0 ≤ x2 ∧ x2 < 701) ∧ ((V 265 x5 = V 265 x2 → ax_I ay_lay d q_Model_ownerOf [.ref 222, ax_i x5] V (fun r3 V3 => (0 ≤ r3 ∧ r3 < 351) ∧ (0 ≤ x1 ∧ x1 < 351) ∧ ((V3 258 r3 = V3 258 x1 → k_Model_checkFirsts_166 d x1 x2 x3 0 (x5 + 1) V3 Φ Θ) ∧ (¬ V3 258 r3 = V3 258 x1 → k_Model_checkFirsts_166 d x1 x2 x3 1 (x5 + 1) V3 Φ Θ))) Θ) ∧ (¬ V 265 x5 = V 265 x2 → k_Model_checkFirsts_166 d x1 x2 x3 1 (x5 + 1) V Φ Θ))))))) : k_Model_checkFirsts_166 d x1 x2 x3 x4 x5 V Φ Θ := by
  refine ax_mv 2 169 [some (.ref 222), some (ax_i x1), some (ax_i x2), some (ax_i x3), some (ax_i x4), some (ax_i x5)] [ax_i x2, ax_i x5] rfl ?_
  refine ax_if2 (p1 := 226) (p2 := 172) ⟨_, rfl⟩ (by decide) rfl hx5 hx2 (fun hc => ?_) (fun hc => ?_)
  · have h := h.1 hc
    refine ax_mv 1 228 [some (.ref 222), some (ax_i x1), some (ax_i x2), some (ax_i x3), some (ax_i x4), some (ax_i x5)] [ax_i x4] rfl ?_
    refine ax_if (p1 := 269) (p2 := 231) ⟨_, rfl⟩ (by decide) rfl hx4 (fun hc => ?_) (fun hc => ?_)
    · have h := h.1 hc
      refine ax_inc (x := x2) (pc' := 272) (L' := [some (.ref 222), some (ax_i x1), some (ax_i (x2 + 1)), some (ax_i x3), some (ax_i x4), some (ax_i x5)]) ⟨_, rfl⟩ rfl rfl rfl rfl ?_
      refine ax_mv 1 126 [some (.ref 222), some (ax_i x1), some (ax_i (x2 + 1)), some (ax_i x3), some (ax_i x4), some (ax_i x5)] [] rfl ?_
      exact h
    · have h := h.2 hc
      refine ax_mv 1 232 [some (.ref 222), some (ax_i x1), some (ax_i x2), some (ax_i x3), some (ax_i x4), some (ax_i x5)] [.ref 222] rfl ?_
      refine ax_gR (v := .ref 232) (pc' := 235) ⟨_, rfl⟩ fl_12_37 ay_222 rfl rfl ?_
      refine ax_mv 1 236 [some (.ref 222), some (ax_i x1), some (ax_i x2), some (ax_i x3), some (ax_i x4), some (ax_i x5)] [ax_i x3, .ref 232] rfl ?_
      obtain ⟨o14, h⟩ := h
      refine ax_ild (n := 240) (pc' := 237) ⟨_, rfl⟩ ay_232 (by decide) o14 rfl ?_
      refine ax_mv 1 238 [some (.ref 222), some (ax_i x1), some (ax_i x2), some (ax_i x3), some (ax_i x4), some (ax_i x5)] [ax_i 2, ax_i (V 232 x3)] rfl ?_
      refine ax_if2 (p1 := 250) (p2 := 241) ⟨_, rfl⟩ (by decide) rfl (hg _ _) (by decide) (fun hc => ?_) (fun hc => ?_)
      · have h := h.1 hc
        refine ax_mv 1 251 [some (.ref 222), some (ax_i x1), some (ax_i x2), some (ax_i x3), some (ax_i x4), some (ax_i x5)] [.ref 222] rfl ?_
        refine ax_gR (v := .ref 282) (pc' := 254) ⟨_, rfl⟩ fl_12_188 ay_222 rfl rfl ?_
        refine ax_mv 1 255 [some (.ref 222), some (ax_i x1), some (ax_i x2), some (ax_i x3), some (ax_i x4), some (ax_i x5)] [ax_i x3, .ref 282] rfl ?_
        obtain ⟨o15, h⟩ := h
        refine ax_bld (n := 240) (pc' := 256) ⟨_, rfl⟩ ay_282 (by decide) o15 rfl ?_
        refine ax_if (p1 := 269) (p2 := 259) ⟨_, rfl⟩ (by decide) rfl (hg _ _) (fun hc => ?_) (fun hc => ?_)
        · have h := h.2 hc
          refine ax_inc (x := x2) (pc' := 272) (L' := [some (.ref 222), some (ax_i x1), some (ax_i (x2 + 1)), some (ax_i x3), some (ax_i x4), some (ax_i x5)]) ⟨_, rfl⟩ rfl rfl rfl rfl ?_
          refine ax_mv 1 126 [some (.ref 222), some (ax_i x1), some (ax_i (x2 + 1)), some (ax_i x3), some (ax_i x4), some (ax_i x5)] [] rfl ?_
          exact h
        · have h := h.1 (Classical.not_not.mp hc)
          refine ax_mv 2 261 [some (.ref 222), some (ax_i x1), some (ax_i x2), some (ax_i x3), some (ax_i x4), some (ax_i x5)] [.ref 222, .ref 222] rfl ?_
          refine ax_gR (v := .ref 266) (pc' := 264) ⟨_, rfl⟩ fl_12_140 ay_222 rfl rfl ?_
          refine ax_mv 1 265 [some (.ref 222), some (ax_i x1), some (ax_i x2), some (ax_i x3), some (ax_i x4), some (ax_i x5)] [ax_i x2, .ref 266, .ref 222] rfl ?_
          obtain ⟨o16, h⟩ := h
          refine ax_ild (n := 701) (pc' := 266) ⟨_, rfl⟩ ay_266 (by decide) o16 rfl ?_
          refine ax_callN (pc' := 269) ⟨_, rfl⟩ ml_12_433 (rest := []) rfl (fun ss hs => ⟨_, _, ay_222 ss hs⟩) (Nat.le_of_ble_eq_true rfl) rfl rfl h (fun V1 hg1 h => ?_)
          refine ax_inc (x := x2) (pc' := 272) (L' := [some (.ref 222), some (ax_i x1), some (ax_i (x2 + 1)), some (ax_i x3), some (ax_i x4), some (ax_i x5)]) ⟨_, rfl⟩ rfl rfl rfl rfl ?_
          refine ax_mv 1 126 [some (.ref 222), some (ax_i x1), some (ax_i (x2 + 1)), some (ax_i x3), some (ax_i x4), some (ax_i x5)] [] rfl ?_
          exact h
      · have h := h.2 hc
        refine ax_mv 1 242 [some (.ref 222), some (ax_i x1), some (ax_i x2), some (ax_i x3), some (ax_i x4), some (ax_i x5)] [.ref 222] rfl ?_
        refine ax_gR (v := .ref 236) (pc' := 245) ⟨_, rfl⟩ fl_12_49 ay_222 rfl rfl ?_
        refine ax_mv 1 246 [some (.ref 222), some (ax_i x1), some (ax_i x2), some (ax_i x3), some (ax_i x4), some (ax_i x5)] [ax_i x3, .ref 236] rfl ?_
        obtain ⟨o17, h⟩ := h
        refine ax_bld (n := 240) (pc' := 247) ⟨_, rfl⟩ ay_236 (by decide) o17 rfl ?_
        refine ax_if (p1 := 269) (p2 := 250) ⟨_, rfl⟩ (by decide) rfl (hg _ _) (fun hc => ?_) (fun hc => ?_)
        · have h := h.1 hc
          refine ax_inc (x := x2) (pc' := 272) (L' := [some (.ref 222), some (ax_i x1), some (ax_i (x2 + 1)), some (ax_i x3), some (ax_i x4), some (ax_i x5)]) ⟨_, rfl⟩ rfl rfl rfl rfl ?_
          refine ax_mv 1 126 [some (.ref 222), some (ax_i x1), some (ax_i (x2 + 1)), some (ax_i x3), some (ax_i x4), some (ax_i x5)] [] rfl ?_
          exact h
        · have h := h.2 hc
          refine ax_mv 1 251 [some (.ref 222), some (ax_i x1), some (ax_i x2), some (ax_i x3), some (ax_i x4), some (ax_i x5)] [.ref 222] rfl ?_
          refine ax_gR (v := .ref 282) (pc' := 254) ⟨_, rfl⟩ fl_12_188 ay_222 rfl rfl ?_
          refine ax_mv 1 255 [some (.ref 222), some (ax_i x1), some (ax_i x2), some (ax_i x3), some (ax_i x4), some (ax_i x5)] [ax_i x3, .ref 282] rfl ?_
          obtain ⟨o18, h⟩ := h
          refine ax_bld (n := 240) (pc' := 256) ⟨_, rfl⟩ ay_282 (by decide) o18 rfl ?_
          refine ax_if (p1 := 269) (p2 := 259) ⟨_, rfl⟩ (by decide) rfl (hg _ _) (fun hc => ?_) (fun hc => ?_)
          · have h := h.2 hc
            refine ax_inc (x := x2) (pc' := 272) (L' := [some (.ref 222), some (ax_i x1), some (ax_i (x2 + 1)), some (ax_i x3), some (ax_i x4), some (ax_i x5)]) ⟨_, rfl⟩ rfl rfl rfl rfl ?_
            refine ax_mv 1 126 [some (.ref 222), some (ax_i x1), some (ax_i (x2 + 1)), some (ax_i x3), some (ax_i x4), some (ax_i x5)] [] rfl ?_
            exact h
          · have h := h.1 (Classical.not_not.mp hc)
            refine ax_mv 2 261 [some (.ref 222), some (ax_i x1), some (ax_i x2), some (ax_i x3), some (ax_i x4), some (ax_i x5)] [.ref 222, .ref 222] rfl ?_
            refine ax_gR (v := .ref 266) (pc' := 264) ⟨_, rfl⟩ fl_12_140 ay_222 rfl rfl ?_
            refine ax_mv 1 265 [some (.ref 222), some (ax_i x1), some (ax_i x2), some (ax_i x3), some (ax_i x4), some (ax_i x5)] [ax_i x2, .ref 266, .ref 222] rfl ?_
            obtain ⟨o19, h⟩ := h
            refine ax_ild (n := 701) (pc' := 266) ⟨_, rfl⟩ ay_266 (by decide) o19 rfl ?_
            refine ax_callN (pc' := 269) ⟨_, rfl⟩ ml_12_433 (rest := []) rfl (fun ss hs => ⟨_, _, ay_222 ss hs⟩) (Nat.le_of_ble_eq_true rfl) rfl rfl h (fun V2 hg2 h => ?_)
            refine ax_inc (x := x2) (pc' := 272) (L' := [some (.ref 222), some (ax_i x1), some (ax_i (x2 + 1)), some (ax_i x3), some (ax_i x4), some (ax_i x5)]) ⟨_, rfl⟩ rfl rfl rfl rfl ?_
            refine ax_mv 1 126 [some (.ref 222), some (ax_i x1), some (ax_i (x2 + 1)), some (ax_i x3), some (ax_i x4), some (ax_i x5)] [] rfl ?_
            exact h
  · have h := h.2 (Int.not_le.mp hc)
    refine ax_mv 1 174 [some (.ref 222), some (ax_i x1), some (ax_i x2), some (ax_i x3), some (ax_i x4), some (ax_i x5)] [ax_i x4] rfl ?_
    refine ax_if (p1 := 217) (p2 := 177) ⟨_, rfl⟩ (by decide) rfl hx4 (fun hc => ?_) (fun hc => ?_)
    · have h := h.1 hc
      refine ax_mv 1 218 [some (.ref 222), some (ax_i x1), some (ax_i x2), some (ax_i x3), some (ax_i x4), some (ax_i x5)] [ax_i 0] rfl ?_
      refine ax_sti (i := 0) (k := 4) (n := 2) (pc' := 220) (L' := [some (.ref 222), some (ax_i x1), some (ax_i x2), some (ax_i x3), some (ax_i 0), some (ax_i x5)]) ⟨_, rfl⟩ rfl rfl rfl (Nat.le_of_ble_eq_true rfl) rfl rfl ?_
      refine ax_inc (x := x5) (pc' := 223) (L' := [some (.ref 222), some (ax_i x1), some (ax_i x2), some (ax_i x3), some (ax_i 0), some (ax_i (x5 + 1))]) ⟨_, rfl⟩ rfl rfl rfl rfl ?_
      refine ax_mv 1 166 [some (.ref 222), some (ax_i x1), some (ax_i x2), some (ax_i x3), some (ax_i 0), some (ax_i (x5 + 1))] [] rfl ?_
      exact h
    · have h := h.2 hc
      refine ax_mv 1 178 [some (.ref 222), some (ax_i x1), some (ax_i x2), some (ax_i x3), some (ax_i x4), some (ax_i x5)] [.ref 222] rfl ?_
      refine ax_gR (v := .ref 265) (pc' := 181) ⟨_, rfl⟩ fl_12_137 ay_222 rfl rfl ?_
      refine ax_mv 1 183 [some (.ref 222), some (ax_i x1), some (ax_i x2), some (ax_i x3), some (ax_i x4), some (ax_i x5)] [ax_i x5, .ref 265] rfl ?_
      obtain ⟨o20, h⟩ := h
      refine ax_ild (n := 701) (pc' := 184) ⟨_, rfl⟩ ay_265 (by decide) o20 rfl ?_
      refine ax_mv 1 185 [some (.ref 222), some (ax_i x1), some (ax_i x2), some (ax_i x3), some (ax_i x4), some (ax_i x5)] [.ref 222, ax_i (V 265 x5)] rfl ?_
      refine ax_gR (v := .ref 265) (pc' := 188) ⟨_, rfl⟩ fl_12_137 ay_222 rfl rfl ?_
      refine ax_mv 1 189 [some (.ref 222), some (ax_i x1), some (ax_i x2), some (ax_i x3), some (ax_i x4), some (ax_i x5)] [ax_i x2, .ref 265, ax_i (V 265 x5)] rfl ?_
      obtain ⟨o21, h⟩ := h
      refine ax_ild (n := 701) (pc' := 190) ⟨_, rfl⟩ ay_265 (by decide) o21 rfl ?_
      refine ax_if2 (p1 := 213) (p2 := 193) ⟨_, rfl⟩ (by decide) rfl (hg _ _) (hg _ _) (fun hc => ?_) (fun hc => ?_)
      · have h := h.2 hc
        refine ax_mv 2 218 [some (.ref 222), some (ax_i x1), some (ax_i x2), some (ax_i x3), some (ax_i x4), some (ax_i x5)] [ax_i 1] rfl ?_
        refine ax_sti (i := 0) (k := 4) (n := 2) (pc' := 220) (L' := [some (.ref 222), some (ax_i x1), some (ax_i x2), some (ax_i x3), some (ax_i 1), some (ax_i x5)]) ⟨_, rfl⟩ rfl rfl rfl (Nat.le_of_ble_eq_true rfl) rfl rfl ?_
        refine ax_inc (x := x5) (pc' := 223) (L' := [some (.ref 222), some (ax_i x1), some (ax_i x2), some (ax_i x3), some (ax_i 1), some (ax_i (x5 + 1))]) ⟨_, rfl⟩ rfl rfl rfl rfl ?_
        refine ax_mv 1 166 [some (.ref 222), some (ax_i x1), some (ax_i x2), some (ax_i x3), some (ax_i 1), some (ax_i (x5 + 1))] [] rfl ?_
        exact h
      · have h := h.1 (Classical.not_not.mp hc)
        refine ax_mv 1 194 [some (.ref 222), some (ax_i x1), some (ax_i x2), some (ax_i x3), some (ax_i x4), some (ax_i x5)] [.ref 222] rfl ?_
        refine ax_gR (v := .ref 258) (pc' := 197) ⟨_, rfl⟩ fl_12_116 ay_222 rfl rfl ?_
        refine ax_mv 2 200 [some (.ref 222), some (ax_i x1), some (ax_i x2), some (ax_i x3), some (ax_i x4), some (ax_i x5)] [ax_i x5, .ref 222, .ref 258] rfl ?_
        refine ax_callI (pc' := 203) ⟨_, rfl⟩ ml_12_472 (rest := [.ref 258]) rfl (fun ss hs => ⟨_, _, ay_222 ss hs⟩) (Nat.le_of_ble_eq_true rfl) rfl rfl h (fun r3 V3 hg3 hr3 h => ?_)
        obtain ⟨o22, h⟩ := h
        refine ax_ild (n := 351) (pc' := 204) ⟨_, rfl⟩ ay_258 (by decide) o22 rfl ?_
        refine ax_mv 1 205 [some (.ref 222), some (ax_i x1), some (ax_i x2), some (ax_i x3), some (ax_i x4), some (ax_i x5)] [.ref 222, ax_i (V3 258 r3)] rfl ?_
        refine ax_gR (v := .ref 258) (pc' := 208) ⟨_, rfl⟩ fl_12_116 ay_222 rfl rfl ?_
        refine ax_mv 1 209 [some (.ref 222), some (ax_i x1), some (ax_i x2), some (ax_i x3), some (ax_i x4), some (ax_i x5)] [ax_i x1, .ref 258, ax_i (V3 258 r3)] rfl ?_
        obtain ⟨o23, h⟩ := h
        refine ax_ild (n := 351) (pc' := 210) ⟨_, rfl⟩ ay_258 (by decide) o23 rfl ?_
        refine ax_if2 (p1 := 217) (p2 := 213) ⟨_, rfl⟩ (by decide) rfl (hg3 _ _) (hg3 _ _) (fun hc => ?_) (fun hc => ?_)
        · have h := h.1 hc
          refine ax_mv 1 218 [some (.ref 222), some (ax_i x1), some (ax_i x2), some (ax_i x3), some (ax_i x4), some (ax_i x5)] [ax_i 0] rfl ?_
          refine ax_sti (i := 0) (k := 4) (n := 2) (pc' := 220) (L' := [some (.ref 222), some (ax_i x1), some (ax_i x2), some (ax_i x3), some (ax_i 0), some (ax_i x5)]) ⟨_, rfl⟩ rfl rfl rfl (Nat.le_of_ble_eq_true rfl) rfl rfl ?_
          refine ax_inc (x := x5) (pc' := 223) (L' := [some (.ref 222), some (ax_i x1), some (ax_i x2), some (ax_i x3), some (ax_i 0), some (ax_i (x5 + 1))]) ⟨_, rfl⟩ rfl rfl rfl rfl ?_
          refine ax_mv 1 166 [some (.ref 222), some (ax_i x1), some (ax_i x2), some (ax_i x3), some (ax_i 0), some (ax_i (x5 + 1))] [] rfl ?_
          exact h
        · have h := h.2 hc
          refine ax_mv 2 218 [some (.ref 222), some (ax_i x1), some (ax_i x2), some (ax_i x3), some (ax_i x4), some (ax_i x5)] [ax_i 1] rfl ?_
          refine ax_sti (i := 0) (k := 4) (n := 2) (pc' := 220) (L' := [some (.ref 222), some (ax_i x1), some (ax_i x2), some (ax_i x3), some (ax_i 1), some (ax_i x5)]) ⟨_, rfl⟩ rfl rfl rfl (Nat.le_of_ble_eq_true rfl) rfl rfl ?_
          refine ax_inc (x := x5) (pc' := 223) (L' := [some (.ref 222), some (ax_i x1), some (ax_i x2), some (ax_i x3), some (ax_i 1), some (ax_i (x5 + 1))]) ⟨_, rfl⟩ rfl rfl rfl rfl ?_
          refine ax_mv 1 166 [some (.ref 222), some (ax_i x1), some (ax_i x2), some (ax_i x3), some (ax_i 1), some (ax_i (x5 + 1))] [] rfl ?_
          exact h
set_option maxRecDepth 20000 in
theorem r_Model_checkFirsts {d : Nat} {V : ax_V} {Φ : ax_V → Prop} {Θ : ax_V → Prop} (hg : ax_g V) (h : ax_N ay_lay d q_Model_findFirsts [.ref 222] V (fun V1 => k_Model_checkFirsts_6 d 0 none none none none V1 Φ Θ) Θ) : ax_N ay_lay (d + 1) q_Model_checkFirsts [.ref 222] V Φ Θ := by
  refine ax_T.of (M := m_Model_checkFirsts) rfl (Nat.le_of_ble_eq_true rfl) ?_
  refine ax_mv 0 0 [some (.ref 222), none, none, none, none, none] [] rfl ?_
  refine ax_mv 1 1 [some (.ref 222), none, none, none, none, none] [.ref 222] rfl ?_
  refine ax_callN (pc' := 4) ⟨_, rfl⟩ ml_12_513 (rest := []) rfl (fun ss hs => ⟨_, _, ay_222 ss hs⟩) (Nat.le_of_ble_eq_true rfl) rfl rfl h (fun V1 hg1 h => ?_)
  refine ax_mv 1 5 [some (.ref 222), none, none, none, none, none] [ax_i 0] rfl ?_
  refine ax_sti (i := 0) (k := 1) (n := 1) (pc' := 6) (L' := [some (.ref 222), some (ax_i 0), none, none, none, none]) ⟨_, rfl⟩ rfl rfl rfl (Nat.le_of_ble_eq_true rfl) rfl rfl ?_
  exact h
abbrev k_Model_findFirsts_2 (d : Nat) (x1 : Int) (y2 : Option Value) (y3 : Option Value) (y4 : Option Value) (V : ax_V) (Φ : ax_V → Prop) (Θ : ax_V → Prop) : Prop := ax_R ay_lay ax_t d m_Model_findFirsts 2 [some (.ref 222), some (ax_i x1), y2, y3, y4] [] V (ax_Nr Φ) Θ
abbrev k_Model_findFirsts_24 (d : Nat) (x1 : Int) (y2 : Option Value) (y3 : Option Value) (y4 : Option Value) (V : ax_V) (Φ : ax_V → Prop) (Θ : ax_V → Prop) : Prop := ax_R ay_lay ax_t d m_Model_findFirsts 24 [some (.ref 222), some (ax_i x1), y2, y3, y4] [] V (ax_Nr Φ) Θ
abbrev k_Model_findFirsts_32 (d : Nat) (x1 : Int) (x2 : Int) (y3 : Option Value) (y4 : Option Value) (V : ax_V) (Φ : ax_V → Prop) (Θ : ax_V → Prop) : Prop := ax_R ay_lay ax_t d m_Model_findFirsts 32 [some (.ref 222), some (ax_i x1), some (ax_i x2), y3, y4] [] V (ax_Nr Φ) Θ
abbrev k_Model_findFirsts_53 (d : Nat) (x1 : Int) (x2 : Int) (y3 : Option Value) (y4 : Option Value) (V : ax_V) (Φ : ax_V → Prop) (Θ : ax_V → Prop) : Prop := ax_R ay_lay ax_t d m_Model_findFirsts 53 [some (.ref 222), some (ax_i x1), some (ax_i x2), y3, y4] [] V (ax_Nr Φ) Θ
abbrev k_Model_findFirsts_68 (d : Nat) (x1 : Int) (x2 : Int) (x3 : Int) (y4 : Option Value) (V : ax_V) (Φ : ax_V → Prop) (Θ : ax_V → Prop) : Prop := ax_R ay_lay ax_t d m_Model_findFirsts 68 [some (.ref 222), some (ax_i x1), some (ax_i x2), some (ax_i x3), y4] [] V (ax_Nr Φ) Θ
set_option maxRecDepth 20000 in
theorem r_Model_findFirsts_2 {d : Nat} {V : ax_V} {Φ : ax_V → Prop} {Θ : ax_V → Prop} {x1 : Int} {y2 : Option Value} {y3 : Option Value} {y4 : Option Value} (hg : ax_g V) (hx1 : ax_rg x1) (hy2 : ax_y y2) (hy3 : ax_y y3) (hy4 : ax_y y4) (h : ((240 ≤ x1 → k_Model_findFirsts_24 d 1 y2 y3 y4 V Φ Θ) ∧ (x1 < 240 → (0 ≤ x1 ∧ x1 < 240) ∧ (∀ V1, V1 = ax_u V 282 x1 1 → k_Model_findFirsts_2 d (x1 + 1) y2 y3 y4 V1 Φ Θ)))) : k_Model_findFirsts_2 d x1 y2 y3 y4 V Φ Θ := by
  refine ax_mv 1 3 [some (.ref 222), some (ax_i x1), y2, y3, y4] [ax_i x1] rfl ?_
  refine ax_sip (pc' := 6) ⟨_, rfl⟩ (by decide) rfl ?_
  refine ax_if2 (p1 := 22) (p2 := 9) ⟨_, rfl⟩ (by decide) rfl hx1 (by decide) (fun hc => ?_) (fun hc => ?_)
  · have h := h.1 hc
    refine ax_mv 1 23 [some (.ref 222), some (ax_i x1), y2, y3, y4] [ax_i 1] rfl ?_
    refine ax_sti (i := 0) (k := 1) (n := 1) (pc' := 24) (L' := [some (.ref 222), some (ax_i 1), y2, y3, y4]) ⟨_, rfl⟩ rfl rfl rfl (Nat.le_of_ble_eq_true rfl) rfl rfl ?_
    exact h
  · have h := h.2 (Int.not_le.mp hc)
    refine ax_mv 1 10 [some (.ref 222), some (ax_i x1), y2, y3, y4] [.ref 222] rfl ?_
    refine ax_gR (v := .ref 282) (pc' := 13) ⟨_, rfl⟩ fl_12_188 ay_222 rfl rfl ?_
    refine ax_mv 2 15 [some (.ref 222), some (ax_i x1), y2, y3, y4] [ax_i 1, ax_i x1, .ref 282] rfl ?_
    obtain ⟨o1, h⟩ := h
    obtain ⟨V1, eV1⟩ : ∃ W9 : ax_V, W9 = ax_u V 282 x1 1 := ⟨_, rfl⟩
    have h := h V1 eV1
    have hg1 : ax_g V1 := eV1 ▸ ax_u_g hg (by decide)
    refine ax_bst (n := 240) (pc' := 16) ⟨_, rfl⟩ ay_ok ay_282 (by decide) o1 (by decide) eV1 rfl ?_
    refine ax_inc (x := x1) (pc' := 19) (L' := [some (.ref 222), some (ax_i (x1 + 1)), y2, y3, y4]) ⟨_, rfl⟩ rfl rfl rfl rfl ?_
    refine ax_mv 1 2 [some (.ref 222), some (ax_i (x1 + 1)), y2, y3, y4] [] rfl ?_
    exact h
set_option maxRecDepth 20000 in
theorem r_Model_findFirsts_24 {d : Nat} {V : ax_V} {Φ : ax_V → Prop} {Θ : ax_V → Prop} {x1 : Int} {y2 : Option Value} {y3 : Option Value} {y4 : Option Value} (hg : ax_g V) (hx1 : ax_rg x1) (hy2 : ax_y y2) (hy3 : ax_y y3) (hy4 : ax_y y4) (h : ((x1 = 0 → Φ V) ∧ (¬ x1 = 0 → k_Model_findFirsts_32 d 0 0 y3 y4 V Φ Θ))) : k_Model_findFirsts_24 d x1 y2 y3 y4 V Φ Θ := by
  refine ax_mv 1 25 [some (.ref 222), some (ax_i x1), y2, y3, y4] [ax_i x1] rfl ?_
  refine ax_if (p1 := 155) (p2 := 28) ⟨_, rfl⟩ (by decide) rfl hx1 (fun hc => ?_) (fun hc => ?_)
  · have h := h.1 hc
    exact ax_nret ⟨_, rfl⟩ rfl hg h
  · have h := h.2 hc
    refine ax_mv 1 29 [some (.ref 222), some (ax_i x1), y2, y3, y4] [ax_i 0] rfl ?_
    refine ax_sti (i := 0) (k := 1) (n := 1) (pc' := 30) (L' := [some (.ref 222), some (ax_i 0), y2, y3, y4]) ⟨_, rfl⟩ rfl rfl rfl (Nat.le_of_ble_eq_true rfl) rfl rfl ?_
    refine ax_mv 1 31 [some (.ref 222), some (ax_i 0), y2, y3, y4] [ax_i 0] rfl ?_
    refine ax_sti (i := 0) (k := 2) (n := 1) (pc' := 32) (L' := [some (.ref 222), some (ax_i 0), some (ax_i 0), y3, y4]) ⟨_, rfl⟩ rfl rfl rfl (Nat.le_of_ble_eq_true rfl) rfl rfl ?_
    exact h
set_option maxRecDepth 20000 in
theorem r_Model_findFirsts_32 {d : Nat} {V : ax_V} {Φ : ax_V → Prop} {Θ : ax_V → Prop} {x1 : Int} {x2 : Int} {y3 : Option Value} {y4 : Option Value} (hg : ax_g V) (hx1 : ax_rg x1) (hx2 : ax_rg x2) (hy3 : ax_y y3) (hy4 : ax_y y4) (h : ((V 222 26 ≤ x2 → k_Model_findFirsts_53 d x1 0 y3 y4 V Φ Θ) ∧ (x2 < V 222 26 → ax_N ay_lay d q_Model_findFirst [.ref 222, ax_i x2] V (fun V1 => k_Model_findFirsts_32 d x1 (x2 + 1) y3 y4 V1 Φ Θ) Θ))) : k_Model_findFirsts_32 d x1 x2 y3 y4 V Φ Θ := by
  refine ax_mv 2 34 [some (.ref 222), some (ax_i x1), some (ax_i x2), y3, y4] [.ref 222, ax_i x2] rfl ?_
  refine ax_gI (kI := 26) (pc' := 37) ⟨_, rfl⟩ fl_12_317 ay_222 rfl rfl rfl ?_
  refine ax_if2 (p1 := 51) (p2 := 40) ⟨_, rfl⟩ (by decide) rfl hx2 (hg _ _) (fun hc => ?_) (fun hc => ?_)
  · have h := h.1 hc
    refine ax_mv 1 52 [some (.ref 222), some (ax_i x1), some (ax_i x2), y3, y4] [ax_i 0] rfl ?_
    refine ax_sti (i := 0) (k := 2) (n := 1) (pc' := 53) (L' := [some (.ref 222), some (ax_i x1), some (ax_i 0), y3, y4]) ⟨_, rfl⟩ rfl rfl rfl (Nat.le_of_ble_eq_true rfl) rfl rfl ?_
    exact h
  · have h := h.2 (Int.not_le.mp hc)
    refine ax_mv 2 42 [some (.ref 222), some (ax_i x1), some (ax_i x2), y3, y4] [ax_i x2, .ref 222] rfl ?_
    refine ax_callN (pc' := 45) ⟨_, rfl⟩ ml_12_503 (rest := []) rfl (fun ss hs => ⟨_, _, ay_222 ss hs⟩) (Nat.le_of_ble_eq_true rfl) rfl rfl h (fun V1 hg1 h => ?_)
    refine ax_inc (x := x2) (pc' := 48) (L' := [some (.ref 222), some (ax_i x1), some (ax_i (x2 + 1)), y3, y4]) ⟨_, rfl⟩ rfl rfl rfl rfl ?_
    refine ax_mv 1 32 [some (.ref 222), some (ax_i x1), some (ax_i (x2 + 1)), y3, y4] [] rfl ?_
    exact h
set_option maxRecDepth 20000 in
theorem r_Model_findFirsts_53 {d : Nat} {V : ax_V} {Φ : ax_V → Prop} {Θ : ax_V → Prop} {x1 : Int} {x2 : Int} {y3 : Option Value} {y4 : Option Value} (hg : ax_g V) (hx1 : ax_rg x1) (hx2 : ax_rg x2) (hy3 : ax_y y3) (hy4 : ax_y y4) (h : ((V 222 44 ≤ x2 → k_Model_findFirsts_24 d x1 (some (ax_i x2)) y3 y4 V Φ Θ) ∧ (x2 < V 222 44 → (0 ≤ x2 ∧ x2 < 351) ∧ k_Model_findFirsts_68 d x1 x2 (V 259 x2) y4 V Φ Θ))) : k_Model_findFirsts_53 d x1 x2 y3 y4 V Φ Θ := by
  refine ax_mv 2 55 [some (.ref 222), some (ax_i x1), some (ax_i x2), y3, y4] [.ref 222, ax_i x2] rfl ?_
  refine ax_gI (kI := 44) (pc' := 58) ⟨_, rfl⟩ fl_12_414 ay_222 rfl rfl rfl ?_
  refine ax_if2 (p1 := 152) (p2 := 61) ⟨_, rfl⟩ (by decide) rfl hx2 (hg _ _) (fun hc => ?_) (fun hc => ?_)
  · have h := h.1 hc
    refine ax_mv 1 24 [some (.ref 222), some (ax_i x1), some (ax_i x2), y3, y4] [] rfl ?_
    exact h
  · have h := h.2 (Int.not_le.mp hc)
    refine ax_mv 1 62 [some (.ref 222), some (ax_i x1), some (ax_i x2), y3, y4] [.ref 222] rfl ?_
    refine ax_gR (v := .ref 259) (pc' := 65) ⟨_, rfl⟩ fl_12_119 ay_222 rfl rfl ?_
    refine ax_mv 1 66 [some (.ref 222), some (ax_i x1), some (ax_i x2), y3, y4] [ax_i x2, .ref 259] rfl ?_
    obtain ⟨o2, h⟩ := h
    refine ax_ild (n := 351) (pc' := 67) ⟨_, rfl⟩ ay_259 (by decide) o2 rfl ?_
    refine ax_sti (i := 0) (k := 3) (n := 1) (pc' := 68) (L' := [some (.ref 222), some (ax_i x1), some (ax_i x2), some (ax_i (V 259 x2)), y4]) ⟨_, rfl⟩ rfl rfl rfl (Nat.le_of_ble_eq_true rfl) rfl rfl ?_
    exact h
set_option maxRecDepth 20000 in
theorem r_Model_findFirsts_68 {d : Nat} {V : ax_V} {Φ : ax_V → Prop} {Θ : ax_V → Prop} {x1 : Int} {x2 : Int} {x3 : Int} {y4 : Option Value} (hg : ax_g V) (hx1 : ax_rg x1) (hx2 : ax_rg x2) (hx3 : ax_rg x3) (hy4 : ax_y y4) (h : (0 ≤ x2 ∧ x2 < 351) ∧ (0 ≤ x2 ∧ x2 < 351) ∧ ax_rg ((V 259 x2) + (V 260 x2)) ∧ (((V 259 x2) + (V 260 x2) ≤ x3 → k_Model_findFirsts_53 d x1 (x2 + 1) (some (ax_i x3)) y4 V Φ Θ) ∧ (x3 < (V 259 x2) + (V 260 x2) → (0 ≤ x2 ∧ x2 < 351) ∧ (0 ≤ x3 ∧ x3 < 701) ∧ (0 ≤ x2 ∧ x2 < 351) ∧ (0 ≤ V 262 x2 ∧ V 262 x2 < 701) ∧ ((V 255 (V 262 x2) = 0 → (0 ≤ (26 * (V 258 x2)) + (V 265 x3) ∧ (26 * (V 258 x2)) + (V 265 x3) < 240) ∧ ((V 282 ((26 * (V 258 x2)) + (V 265 x3)) = 0 → k_Model_findFirsts_68 d x1 x2 (x3 + 1) (some (ax_i ((26 * (V 258 x2)) + (V 265 x3)))) V Φ Θ) ∧ (¬ V 282 ((26 * (V 258 x2)) + (V 265 x3)) = 0 → (0 ≤ (26 * (V 258 x2)) + (V 265 x3) ∧ (26 * (V 258 x2)) + (V 265 x3) < 240) ∧ (∀ V1, V1 = ax_u V 282 ((26 * (V 258 x2)) + (V 265 x3)) 0 → k_Model_findFirsts_68 d 1 x2 (x3 + 1) (some (ax_i ((26 * (V 258 x2)) + (V 265 x3)))) V1 Φ Θ)))) ∧ (¬ V 255 (V 262 x2) = 0 → k_Model_findFirsts_68 d x1 x2 (x3 + 1) (some (ax_i ((26 * (V 258 x2)) + (V 265 x3)))) V Φ Θ))))) : k_Model_findFirsts_68 d x1 x2 x3 y4 V Φ Θ := by
  refine ax_mv 2 70 [some (.ref 222), some (ax_i x1), some (ax_i x2), some (ax_i x3), y4] [.ref 222, ax_i x3] rfl ?_
  refine ax_gR (v := .ref 259) (pc' := 73) ⟨_, rfl⟩ fl_12_119 ay_222 rfl rfl ?_
  refine ax_mv 1 74 [some (.ref 222), some (ax_i x1), some (ax_i x2), some (ax_i x3), y4] [ax_i x2, .ref 259, ax_i x3] rfl ?_
  obtain ⟨o3, h⟩ := h
  refine ax_ild (n := 351) (pc' := 75) ⟨_, rfl⟩ ay_259 (by decide) o3 rfl ?_
  refine ax_mv 1 76 [some (.ref 222), some (ax_i x1), some (ax_i x2), some (ax_i x3), y4] [.ref 222, ax_i (V 259 x2), ax_i x3] rfl ?_
  refine ax_gR (v := .ref 260) (pc' := 79) ⟨_, rfl⟩ fl_12_122 ay_222 rfl rfl ?_
  refine ax_mv 1 80 [some (.ref 222), some (ax_i x1), some (ax_i x2), some (ax_i x3), y4] [ax_i x2, .ref 260, ax_i (V 259 x2), ax_i x3] rfl ?_
  obtain ⟨o4, h⟩ := h
  refine ax_ild (n := 351) (pc' := 81) ⟨_, rfl⟩ ay_260 (by decide) o4 rfl ?_
  refine ax_add (pc' := 82) ⟨_, rfl⟩ rfl ?_
  obtain ⟨o5, h⟩ := h
  refine ax_if2 (p1 := 146) (p2 := 85) ⟨_, rfl⟩ (by decide) rfl hx3 o5 (fun hc => ?_) (fun hc => ?_)
  · have h := h.1 hc
    refine ax_inc (x := x2) (pc' := 149) (L' := [some (.ref 222), some (ax_i x1), some (ax_i (x2 + 1)), some (ax_i x3), y4]) ⟨_, rfl⟩ rfl rfl rfl rfl ?_
    refine ax_mv 1 53 [some (.ref 222), some (ax_i x1), some (ax_i (x2 + 1)), some (ax_i x3), y4] [] rfl ?_
    exact h
  · have h := h.2 (Int.not_le.mp hc)
    refine ax_bip (pc' := 87) ⟨_, rfl⟩ (by decide) rfl ?_
    refine ax_mv 1 88 [some (.ref 222), some (ax_i x1), some (ax_i x2), some (ax_i x3), y4] [.ref 222, ax_i 26] rfl ?_
    refine ax_gR (v := .ref 258) (pc' := 91) ⟨_, rfl⟩ fl_12_116 ay_222 rfl rfl ?_
    refine ax_mv 1 92 [some (.ref 222), some (ax_i x1), some (ax_i x2), some (ax_i x3), y4] [ax_i x2, .ref 258, ax_i 26] rfl ?_
    obtain ⟨o6, h⟩ := h
    refine ax_ild (n := 351) (pc' := 93) ⟨_, rfl⟩ ay_258 (by decide) o6 rfl ?_
    refine ax_mul (pc' := 94) ⟨_, rfl⟩ rfl ?_
    refine ax_mv 1 95 [some (.ref 222), some (ax_i x1), some (ax_i x2), some (ax_i x3), y4] [.ref 222, ax_i (26 * (V 258 x2))] rfl ?_
    refine ax_gR (v := .ref 265) (pc' := 98) ⟨_, rfl⟩ fl_12_137 ay_222 rfl rfl ?_
    refine ax_mv 1 99 [some (.ref 222), some (ax_i x1), some (ax_i x2), some (ax_i x3), y4] [ax_i x3, .ref 265, ax_i (26 * (V 258 x2))] rfl ?_
    obtain ⟨o7, h⟩ := h
    refine ax_ild (n := 701) (pc' := 100) ⟨_, rfl⟩ ay_265 (by decide) o7 rfl ?_
    refine ax_add (pc' := 101) ⟨_, rfl⟩ rfl ?_
    refine ax_sti (i := 0) (k := 4) (n := 2) (pc' := 103) (L' := [some (.ref 222), some (ax_i x1), some (ax_i x2), some (ax_i x3), some (ax_i ((26 * (V 258 x2)) + (V 265 x3)))]) ⟨_, rfl⟩ rfl rfl rfl (Nat.le_of_ble_eq_true rfl) rfl rfl ?_
    refine ax_mv 1 104 [some (.ref 222), some (ax_i x1), some (ax_i x2), some (ax_i x3), some (ax_i ((26 * (V 258 x2)) + (V 265 x3)))] [.ref 222] rfl ?_
    refine ax_gR (v := .ref 255) (pc' := 107) ⟨_, rfl⟩ fl_12_107 ay_222 rfl rfl ?_
    refine ax_mv 1 108 [some (.ref 222), some (ax_i x1), some (ax_i x2), some (ax_i x3), some (ax_i ((26 * (V 258 x2)) + (V 265 x3)))] [.ref 222, .ref 255] rfl ?_
    refine ax_gR (v := .ref 262) (pc' := 111) ⟨_, rfl⟩ fl_12_128 ay_222 rfl rfl ?_
    refine ax_mv 1 112 [some (.ref 222), some (ax_i x1), some (ax_i x2), some (ax_i x3), some (ax_i ((26 * (V 258 x2)) + (V 265 x3)))] [ax_i x2, .ref 262, .ref 255] rfl ?_
    obtain ⟨o8, h⟩ := h
    refine ax_ild (n := 351) (pc' := 113) ⟨_, rfl⟩ ay_262 (by decide) o8 rfl ?_
    obtain ⟨o9, h⟩ := h
    refine ax_bld (n := 701) (pc' := 114) ⟨_, rfl⟩ ay_255 (by decide) o9 rfl ?_
    refine ax_if (p1 := 140) (p2 := 117) ⟨_, rfl⟩ (by decide) rfl (hg _ _) (fun hc => ?_) (fun hc => ?_)
    · have h := h.2 hc
      refine ax_inc (x := x3) (pc' := 143) (L' := [some (.ref 222), some (ax_i x1), some (ax_i x2), some (ax_i (x3 + 1)), some (ax_i ((26 * (V 258 x2)) + (V 265 x3)))]) ⟨_, rfl⟩ rfl rfl rfl rfl ?_
      refine ax_mv 1 68 [some (.ref 222), some (ax_i x1), some (ax_i x2), some (ax_i (x3 + 1)), some (ax_i ((26 * (V 258 x2)) + (V 265 x3)))] [] rfl ?_
      exact h
    · have h := h.1 (Classical.not_not.mp hc)
      refine ax_mv 1 118 [some (.ref 222), some (ax_i x1), some (ax_i x2), some (ax_i x3), some (ax_i ((26 * (V 258 x2)) + (V 265 x3)))] [.ref 222] rfl ?_
      refine ax_gR (v := .ref 282) (pc' := 121) ⟨_, rfl⟩ fl_12_188 ay_222 rfl rfl ?_
      refine ax_mv 1 123 [some (.ref 222), some (ax_i x1), some (ax_i x2), some (ax_i x3), some (ax_i ((26 * (V 258 x2)) + (V 265 x3)))] [ax_i ((26 * (V 258 x2)) + (V 265 x3)), .ref 282] rfl ?_
      obtain ⟨o10, h⟩ := h
      refine ax_bld (n := 240) (pc' := 124) ⟨_, rfl⟩ ay_282 (by decide) o10 rfl ?_
      refine ax_if (p1 := 130) (p2 := 127) ⟨_, rfl⟩ (by decide) rfl (hg _ _) (fun hc => ?_) (fun hc => ?_)
      · have h := h.2 hc
        refine ax_mv 1 131 [some (.ref 222), some (ax_i x1), some (ax_i x2), some (ax_i x3), some (ax_i ((26 * (V 258 x2)) + (V 265 x3)))] [.ref 222] rfl ?_
        refine ax_gR (v := .ref 282) (pc' := 134) ⟨_, rfl⟩ fl_12_188 ay_222 rfl rfl ?_
        refine ax_mv 2 137 [some (.ref 222), some (ax_i x1), some (ax_i x2), some (ax_i x3), some (ax_i ((26 * (V 258 x2)) + (V 265 x3)))] [ax_i 0, ax_i ((26 * (V 258 x2)) + (V 265 x3)), .ref 282] rfl ?_
        obtain ⟨o11, h⟩ := h
        obtain ⟨V1, eV1⟩ : ∃ W9 : ax_V, W9 = ax_u V 282 ((26 * (V 258 x2)) + (V 265 x3)) 0 := ⟨_, rfl⟩
        have h := h V1 eV1
        have hg1 : ax_g V1 := eV1 ▸ ax_u_g hg (by decide)
        refine ax_bst (n := 240) (pc' := 138) ⟨_, rfl⟩ ay_ok ay_282 (by decide) o11 (by decide) eV1 rfl ?_
        refine ax_mv 1 139 [some (.ref 222), some (ax_i x1), some (ax_i x2), some (ax_i x3), some (ax_i ((26 * (V 258 x2)) + (V 265 x3)))] [ax_i 1] rfl ?_
        refine ax_sti (i := 0) (k := 1) (n := 1) (pc' := 140) (L' := [some (.ref 222), some (ax_i 1), some (ax_i x2), some (ax_i x3), some (ax_i ((26 * (V 258 x2)) + (V 265 x3)))]) ⟨_, rfl⟩ rfl rfl rfl (Nat.le_of_ble_eq_true rfl) rfl rfl ?_
        refine ax_inc (x := x3) (pc' := 143) (L' := [some (.ref 222), some (ax_i 1), some (ax_i x2), some (ax_i (x3 + 1)), some (ax_i ((26 * (V 258 x2)) + (V 265 x3)))]) ⟨_, rfl⟩ rfl rfl rfl rfl ?_
        refine ax_mv 1 68 [some (.ref 222), some (ax_i 1), some (ax_i x2), some (ax_i (x3 + 1)), some (ax_i ((26 * (V 258 x2)) + (V 265 x3)))] [] rfl ?_
        exact h
      · have h := h.1 (Classical.not_not.mp hc)
        refine ax_mv 1 140 [some (.ref 222), some (ax_i x1), some (ax_i x2), some (ax_i x3), some (ax_i ((26 * (V 258 x2)) + (V 265 x3)))] [] rfl ?_
        refine ax_inc (x := x3) (pc' := 143) (L' := [some (.ref 222), some (ax_i x1), some (ax_i x2), some (ax_i (x3 + 1)), some (ax_i ((26 * (V 258 x2)) + (V 265 x3)))]) ⟨_, rfl⟩ rfl rfl rfl rfl ?_
        refine ax_mv 1 68 [some (.ref 222), some (ax_i x1), some (ax_i x2), some (ax_i (x3 + 1)), some (ax_i ((26 * (V 258 x2)) + (V 265 x3)))] [] rfl ?_
        exact h
set_option maxRecDepth 20000 in
theorem r_Model_findFirsts {d : Nat} {V : ax_V} {Φ : ax_V → Prop} {Θ : ax_V → Prop} (hg : ax_g V) (h : k_Model_findFirsts_2 d 0 none none none V Φ Θ) : ax_N ay_lay (d + 1) q_Model_findFirsts [.ref 222] V Φ Θ := by
  refine ax_T.of (M := m_Model_findFirsts) rfl (Nat.le_of_ble_eq_true rfl) ?_
  refine ax_mv 0 0 [some (.ref 222), none, none, none, none] [] rfl ?_
  refine ax_mv 1 1 [some (.ref 222), none, none, none, none] [ax_i 0] rfl ?_
  refine ax_sti (i := 0) (k := 1) (n := 1) (pc' := 2) (L' := [some (.ref 222), some (ax_i 0), none, none, none]) ⟨_, rfl⟩ rfl rfl rfl (Nat.le_of_ble_eq_true rfl) rfl rfl ?_
  exact h
abbrev k_Model_findFirst_30 (d : Nat) (x1 : Int) (y2 : Option Value) (s0 : Int) (V : ax_V) (Φ : ax_V → Prop) (Θ : ax_V → Prop) : Prop := ax_R ay_lay ax_t d m_Model_findFirst 30 [some (.ref 222), some (ax_i x1), y2] [ax_i s0] V (ax_Nr Φ) Θ
set_option maxRecDepth 20000 in
theorem r_Model_findFirst_30 {d : Nat} {V : ax_V} {Φ : ax_V → Prop} {Θ : ax_V → Prop} {x1 : Int} {y2 : Option Value} {s0 : Int} (hg : ax_g V) (hx1 : ax_rg x1) (hy2 : ax_y y2) (hs0 : ax_rg s0) (h : (0 ≤ x1 ∧ x1 < 701) ∧ (((V 241 x1 = 0 ∨ V 241 x1 = 1 ∨ V 241 x1 = 3 ∨ V 241 x1 = 22) → (0 ≤ x1 ∧ x1 < 701) ∧ (∀ V1, V1 = ax_u V 255 x1 1 → Φ V1)) ∧ (V 241 x1 = 2 → (0 ≤ s0 ∧ s0 < 240) ∧ (0 ≤ x1 ∧ x1 < 701) ∧ (V 282 s0 = 0 ∨ V 282 s0 = 1) ∧ (∀ V2, V2 = ax_u V 255 x1 (V 282 s0) → Φ V2)) ∧ (V 241 x1 = 6 → (0 ≤ x1 ∧ x1 < 701) ∧ (∀ V3, V3 = ax_u V 255 x1 0 → Φ V3)) ∧ (V 241 x1 = 19 → (0 ≤ x1 ∧ x1 < 701) ∧ (0 ≤ V 245 x1 ∧ V 245 x1 < 701) ∧ (0 ≤ x1 ∧ x1 < 701) ∧ (V 255 (V 245 x1) = 0 ∨ V 255 (V 245 x1) = 1) ∧ (∀ V4, V4 = ax_u V 255 x1 (V 255 (V 245 x1)) → Φ V4)) ∧ (V 241 x1 = 20 → (0 ≤ x1 ∧ x1 < 701) ∧ (0 ≤ V 245 x1 ∧ V 245 x1 < 701) ∧ ((V 255 (V 245 x1) = 0 → (0 ≤ x1 ∧ x1 < 701) ∧ (∀ V5, V5 = ax_u V 255 x1 0 → Φ V5)) ∧ (¬ V 255 (V 245 x1) = 0 → (0 ≤ s0 ∧ s0 < 240) ∧ ((V 282 s0 = 0 → (0 ≤ x1 ∧ x1 < 701) ∧ (∀ V6, V6 = ax_u V 255 x1 0 → Φ V6)) ∧ (¬ V 282 s0 = 0 → (0 ≤ x1 ∧ x1 < 701) ∧ (∀ V7, V7 = ax_u V 255 x1 1 → Φ V7)))))) ∧ (V 241 x1 = 21 → (0 ≤ x1 ∧ x1 < 701) ∧ (0 ≤ V 245 x1 ∧ V 245 x1 < 701) ∧ ((V 255 (V 245 x1) = 0 → (0 ≤ x1 ∧ x1 < 701) ∧ (∀ V8, V8 = ax_u V 255 x1 0 → Φ V8)) ∧ (¬ V 255 (V 245 x1) = 0 → (0 ≤ x1 ∧ x1 < 701) ∧ (0 ≤ V 246 x1 ∧ V 246 x1 < 701) ∧ ((V 255 (V 246 x1) = 0 → (0 ≤ x1 ∧ x1 < 701) ∧ (∀ V9, V9 = ax_u V 255 x1 0 → Φ V9)) ∧ (¬ V 255 (V 246 x1) = 0 → (0 ≤ s0 ∧ s0 < 240) ∧ ((V 282 s0 = 0 → (0 ≤ x1 ∧ x1 < 701) ∧ (∀ V10, V10 = ax_u V 255 x1 0 → Φ V10)) ∧ (¬ V 282 s0 = 0 → (0 ≤ x1 ∧ x1 < 701) ∧ (∀ V11, V11 = ax_u V 255 x1 1 → Φ V11)))))))) ∧ (¬ V 241 x1 = 0 → ¬ V 241 x1 = 1 → ¬ V 241 x1 = 3 → ¬ V 241 x1 = 22 → ¬ V 241 x1 = 2 → ¬ V 241 x1 = 6 → ¬ V 241 x1 = 19 → ¬ V 241 x1 = 20 → ¬ V 241 x1 = 21 → (0 ≤ x1 ∧ x1 < 701) ∧ (0 ≤ V 245 x1 ∧ V 245 x1 < 701) ∧ ((V 255 (V 245 x1) = 0 → (0 ≤ x1 ∧ x1 < 701) ∧ (∀ V12, V12 = ax_u V 255 x1 0 → Φ V12)) ∧ (¬ V 255 (V 245 x1) = 0 → (0 ≤ x1 ∧ x1 < 701) ∧ ((V 246 x1 = -1 → (0 ≤ x1 ∧ x1 < 701) ∧ ((V 247 x1 = -1 → (0 ≤ x1 ∧ x1 < 701) ∧ (∀ V13, V13 = ax_u V 255 x1 1 → Φ V13)) ∧ (¬ V 247 x1 = -1 → (0 ≤ x1 ∧ x1 < 701) ∧ (0 ≤ V 247 x1 ∧ V 247 x1 < 701) ∧ ((V 255 (V 247 x1) = 0 → (0 ≤ x1 ∧ x1 < 701) ∧ (∀ V14, V14 = ax_u V 255 x1 0 → Φ V14)) ∧ (¬ V 255 (V 247 x1) = 0 → (0 ≤ x1 ∧ x1 < 701) ∧ (∀ V15, V15 = ax_u V 255 x1 1 → Φ V15)))))) ∧ (¬ V 246 x1 = -1 → (0 ≤ x1 ∧ x1 < 701) ∧ (0 ≤ V 246 x1 ∧ V 246 x1 < 701) ∧ ((V 255 (V 246 x1) = 0 → (0 ≤ x1 ∧ x1 < 701) ∧ (∀ V16, V16 = ax_u V 255 x1 0 → Φ V16)) ∧ (¬ V 255 (V 246 x1) = 0 → (0 ≤ x1 ∧ x1 < 701) ∧ ((V 247 x1 = -1 → (0 ≤ x1 ∧ x1 < 701) ∧ (∀ V17, V17 = ax_u V 255 x1 1 → Φ V17)) ∧ (¬ V 247 x1 = -1 → (0 ≤ x1 ∧ x1 < 701) ∧ (0 ≤ V 247 x1 ∧ V 247 x1 < 701) ∧ ((V 255 (V 247 x1) = 0 → (0 ≤ x1 ∧ x1 < 701) ∧ (∀ V18, V18 = ax_u V 255 x1 0 → Φ V18)) ∧ (¬ V 255 (V 247 x1) = 0 → (0 ≤ x1 ∧ x1 < 701) ∧ (∀ V19, V19 = ax_u V 255 x1 1 → Φ V19)))))))))))))) : k_Model_findFirst_30 d x1 y2 s0 V Φ Θ := by
  refine ax_sti (i := 0) (k := 2) (n := 1) (pc' := 31) (L' := [some (.ref 222), some (ax_i x1), some (ax_i s0)]) ⟨_, rfl⟩ rfl rfl rfl (Nat.le_of_ble_eq_true rfl) rfl rfl ?_
  refine ax_mv 1 32 [some (.ref 222), some (ax_i x1), some (ax_i s0)] [.ref 222] rfl ?_
  refine ax_gR (v := .ref 241) (pc' := 35) ⟨_, rfl⟩ fl_12_65 ay_222 rfl rfl ?_
  refine ax_mv 1 36 [some (.ref 222), some (ax_i x1), some (ax_i s0)] [ax_i x1, .ref 241] rfl ?_
  obtain ⟨o1, h⟩ := h
  refine ax_ild (n := 701) (pc' := 37) ⟨_, rfl⟩ ay_241 (by decide) o1 rfl ?_
  have t0 : (V 241 x1 = 0 ∨ V 241 x1 = 1 ∨ V 241 x1 = 3 ∨ V 241 x1 = 22) → ax_R ay_lay ax_t d m_Model_findFirst 144 [some (.ref 222), some (ax_i x1), some (ax_i s0)] [] V (ax_Nr Φ) Θ := fun hk => by
    have h := h.1 hk
    refine ax_mv 1 145 [some (.ref 222), some (ax_i x1), some (ax_i s0)] [.ref 222] rfl ?_
    refine ax_gR (v := .ref 255) (pc' := 148) ⟨_, rfl⟩ fl_12_107 ay_222 rfl rfl ?_
    refine ax_mv 2 150 [some (.ref 222), some (ax_i x1), some (ax_i s0)] [ax_i 1, ax_i x1, .ref 255] rfl ?_
    obtain ⟨o2, h⟩ := h
    obtain ⟨V1, eV1⟩ : ∃ W9 : ax_V, W9 = ax_u V 255 x1 1 := ⟨_, rfl⟩
    have h := h V1 eV1
    have hg1 : ax_g V1 := eV1 ▸ ax_u_g hg (by decide)
    refine ax_bst (n := 701) (pc' := 151) ⟨_, rfl⟩ ay_ok ay_255 (by decide) o2 (by decide) eV1 rfl ?_
    refine ax_mv 1 360 [some (.ref 222), some (ax_i x1), some (ax_i s0)] [] rfl ?_
    exact ax_nret ⟨_, rfl⟩ rfl hg1 h
  have t1 : (V 241 x1 = 2) → ax_R ay_lay ax_t d m_Model_findFirst 154 [some (.ref 222), some (ax_i x1), some (ax_i s0)] [] V (ax_Nr Φ) Θ := fun hk => by
    have h := h.2.1 hk
    refine ax_mv 1 155 [some (.ref 222), some (ax_i x1), some (ax_i s0)] [.ref 222] rfl ?_
    refine ax_gR (v := .ref 255) (pc' := 158) ⟨_, rfl⟩ fl_12_107 ay_222 rfl rfl ?_
    refine ax_mv 2 160 [some (.ref 222), some (ax_i x1), some (ax_i s0)] [.ref 222, ax_i x1, .ref 255] rfl ?_
    refine ax_gR (v := .ref 282) (pc' := 163) ⟨_, rfl⟩ fl_12_188 ay_222 rfl rfl ?_
    refine ax_mv 1 164 [some (.ref 222), some (ax_i x1), some (ax_i s0)] [ax_i s0, .ref 282, ax_i x1, .ref 255] rfl ?_
    obtain ⟨o3, h⟩ := h
    refine ax_bld (n := 240) (pc' := 165) ⟨_, rfl⟩ ay_282 (by decide) o3 rfl ?_
    obtain ⟨o4, o5, h⟩ := h
    obtain ⟨V2, eV2⟩ : ∃ W9 : ax_V, W9 = ax_u V 255 x1 (V 282 s0) := ⟨_, rfl⟩
    have h := h V2 eV2
    have hg2 : ax_g V2 := eV2 ▸ ax_u_g hg (hg _ _)
    refine ax_bst (n := 701) (pc' := 166) ⟨_, rfl⟩ ay_ok ay_255 (by decide) o4 o5 eV2 rfl ?_
    refine ax_mv 1 360 [some (.ref 222), some (ax_i x1), some (ax_i s0)] [] rfl ?_
    exact ax_nret ⟨_, rfl⟩ rfl hg2 h
  have t2 : (V 241 x1 = 6) → ax_R ay_lay ax_t d m_Model_findFirst 169 [some (.ref 222), some (ax_i x1), some (ax_i s0)] [] V (ax_Nr Φ) Θ := fun hk => by
    have h := h.2.2.1 hk
    refine ax_mv 1 170 [some (.ref 222), some (ax_i x1), some (ax_i s0)] [.ref 222] rfl ?_
    refine ax_gR (v := .ref 255) (pc' := 173) ⟨_, rfl⟩ fl_12_107 ay_222 rfl rfl ?_
    refine ax_mv 2 175 [some (.ref 222), some (ax_i x1), some (ax_i s0)] [ax_i 0, ax_i x1, .ref 255] rfl ?_
    obtain ⟨o6, h⟩ := h
    obtain ⟨V3, eV3⟩ : ∃ W9 : ax_V, W9 = ax_u V 255 x1 0 := ⟨_, rfl⟩
    have h := h V3 eV3
    have hg3 : ax_g V3 := eV3 ▸ ax_u_g hg (by decide)
    refine ax_bst (n := 701) (pc' := 176) ⟨_, rfl⟩ ay_ok ay_255 (by decide) o6 (by decide) eV3 rfl ?_
    refine ax_mv 1 360 [some (.ref 222), some (ax_i x1), some (ax_i s0)] [] rfl ?_
    exact ax_nret ⟨_, rfl⟩ rfl hg3 h
  have t3 : (V 241 x1 = 19) → ax_R ay_lay ax_t d m_Model_findFirst 179 [some (.ref 222), some (ax_i x1), some (ax_i s0)] [] V (ax_Nr Φ) Θ := fun hk => by
    have h := h.2.2.2.1 hk
    refine ax_mv 1 180 [some (.ref 222), some (ax_i x1), some (ax_i s0)] [.ref 222] rfl ?_
    refine ax_gR (v := .ref 255) (pc' := 183) ⟨_, rfl⟩ fl_12_107 ay_222 rfl rfl ?_
    refine ax_mv 2 185 [some (.ref 222), some (ax_i x1), some (ax_i s0)] [.ref 222, ax_i x1, .ref 255] rfl ?_
    refine ax_gR (v := .ref 255) (pc' := 188) ⟨_, rfl⟩ fl_12_107 ay_222 rfl rfl ?_
    refine ax_mv 1 189 [some (.ref 222), some (ax_i x1), some (ax_i s0)] [.ref 222, .ref 255, ax_i x1, .ref 255] rfl ?_
    refine ax_gR (v := .ref 245) (pc' := 192) ⟨_, rfl⟩ fl_12_77 ay_222 rfl rfl ?_
    refine ax_mv 1 193 [some (.ref 222), some (ax_i x1), some (ax_i s0)] [ax_i x1, .ref 245, .ref 255, ax_i x1, .ref 255] rfl ?_
    obtain ⟨o7, h⟩ := h
    refine ax_ild (n := 701) (pc' := 194) ⟨_, rfl⟩ ay_245 (by decide) o7 rfl ?_
    obtain ⟨o8, h⟩ := h
    refine ax_bld (n := 701) (pc' := 195) ⟨_, rfl⟩ ay_255 (by decide) o8 rfl ?_
    obtain ⟨o9, o10, h⟩ := h
    obtain ⟨V4, eV4⟩ : ∃ W9 : ax_V, W9 = ax_u V 255 x1 (V 255 (V 245 x1)) := ⟨_, rfl⟩
    have h := h V4 eV4
    have hg4 : ax_g V4 := eV4 ▸ ax_u_g hg (hg _ _)
    refine ax_bst (n := 701) (pc' := 196) ⟨_, rfl⟩ ay_ok ay_255 (by decide) o9 o10 eV4 rfl ?_
    refine ax_mv 1 360 [some (.ref 222), some (ax_i x1), some (ax_i s0)] [] rfl ?_
    exact ax_nret ⟨_, rfl⟩ rfl hg4 h
  have t4 : (V 241 x1 = 20) → ax_R ay_lay ax_t d m_Model_findFirst 199 [some (.ref 222), some (ax_i x1), some (ax_i s0)] [] V (ax_Nr Φ) Θ := fun hk => by
    have h := h.2.2.2.2.1 hk
    refine ax_mv 1 200 [some (.ref 222), some (ax_i x1), some (ax_i s0)] [.ref 222] rfl ?_
    refine ax_gR (v := .ref 255) (pc' := 203) ⟨_, rfl⟩ fl_12_107 ay_222 rfl rfl ?_
    refine ax_mv 2 205 [some (.ref 222), some (ax_i x1), some (ax_i s0)] [.ref 222, ax_i x1, .ref 255] rfl ?_
    refine ax_gR (v := .ref 255) (pc' := 208) ⟨_, rfl⟩ fl_12_107 ay_222 rfl rfl ?_
    refine ax_mv 1 209 [some (.ref 222), some (ax_i x1), some (ax_i s0)] [.ref 222, .ref 255, ax_i x1, .ref 255] rfl ?_
    refine ax_gR (v := .ref 245) (pc' := 212) ⟨_, rfl⟩ fl_12_77 ay_222 rfl rfl ?_
    refine ax_mv 1 213 [some (.ref 222), some (ax_i x1), some (ax_i s0)] [ax_i x1, .ref 245, .ref 255, ax_i x1, .ref 255] rfl ?_
    obtain ⟨o11, h⟩ := h
    refine ax_ild (n := 701) (pc' := 214) ⟨_, rfl⟩ ay_245 (by decide) o11 rfl ?_
    obtain ⟨o12, h⟩ := h
    refine ax_bld (n := 701) (pc' := 215) ⟨_, rfl⟩ ay_255 (by decide) o12 rfl ?_
    refine ax_if (p1 := 231) (p2 := 218) ⟨_, rfl⟩ (by decide) rfl (hg _ _) (fun hc => ?_) (fun hc => ?_)
    · have h := h.1 hc
      refine ax_mv 1 232 [some (.ref 222), some (ax_i x1), some (ax_i s0)] [ax_i 0, ax_i x1, .ref 255] rfl ?_
      obtain ⟨o13, h⟩ := h
      obtain ⟨V5, eV5⟩ : ∃ W9 : ax_V, W9 = ax_u V 255 x1 0 := ⟨_, rfl⟩
      have h := h V5 eV5
      have hg5 : ax_g V5 := eV5 ▸ ax_u_g hg (by decide)
      refine ax_bst (n := 701) (pc' := 233) ⟨_, rfl⟩ ay_ok ay_255 (by decide) o13 (by decide) eV5 rfl ?_
      refine ax_mv 1 360 [some (.ref 222), some (ax_i x1), some (ax_i s0)] [] rfl ?_
      exact ax_nret ⟨_, rfl⟩ rfl hg5 h
    · have h := h.2 hc
      refine ax_mv 1 219 [some (.ref 222), some (ax_i x1), some (ax_i s0)] [.ref 222, ax_i x1, .ref 255] rfl ?_
      refine ax_gR (v := .ref 282) (pc' := 222) ⟨_, rfl⟩ fl_12_188 ay_222 rfl rfl ?_
      refine ax_mv 1 223 [some (.ref 222), some (ax_i x1), some (ax_i s0)] [ax_i s0, .ref 282, ax_i x1, .ref 255] rfl ?_
      obtain ⟨o14, h⟩ := h
      refine ax_bld (n := 240) (pc' := 224) ⟨_, rfl⟩ ay_282 (by decide) o14 rfl ?_
      refine ax_if (p1 := 231) (p2 := 227) ⟨_, rfl⟩ (by decide) rfl (hg _ _) (fun hc => ?_) (fun hc => ?_)
      · have h := h.1 hc
        refine ax_mv 1 232 [some (.ref 222), some (ax_i x1), some (ax_i s0)] [ax_i 0, ax_i x1, .ref 255] rfl ?_
        obtain ⟨o15, h⟩ := h
        obtain ⟨V6, eV6⟩ : ∃ W9 : ax_V, W9 = ax_u V 255 x1 0 := ⟨_, rfl⟩
        have h := h V6 eV6
        have hg6 : ax_g V6 := eV6 ▸ ax_u_g hg (by decide)
        refine ax_bst (n := 701) (pc' := 233) ⟨_, rfl⟩ ay_ok ay_255 (by decide) o15 (by decide) eV6 rfl ?_
        refine ax_mv 1 360 [some (.ref 222), some (ax_i x1), some (ax_i s0)] [] rfl ?_
        exact ax_nret ⟨_, rfl⟩ rfl hg6 h
      · have h := h.2 hc
        refine ax_mv 2 232 [some (.ref 222), some (ax_i x1), some (ax_i s0)] [ax_i 1, ax_i x1, .ref 255] rfl ?_
        obtain ⟨o16, h⟩ := h
        obtain ⟨V7, eV7⟩ : ∃ W9 : ax_V, W9 = ax_u V 255 x1 1 := ⟨_, rfl⟩
        have h := h V7 eV7
        have hg7 : ax_g V7 := eV7 ▸ ax_u_g hg (by decide)
        refine ax_bst (n := 701) (pc' := 233) ⟨_, rfl⟩ ay_ok ay_255 (by decide) o16 (by decide) eV7 rfl ?_
        refine ax_mv 1 360 [some (.ref 222), some (ax_i x1), some (ax_i s0)] [] rfl ?_
        exact ax_nret ⟨_, rfl⟩ rfl hg7 h
  have t5 : (V 241 x1 = 21) → ax_R ay_lay ax_t d m_Model_findFirst 236 [some (.ref 222), some (ax_i x1), some (ax_i s0)] [] V (ax_Nr Φ) Θ := fun hk => by
    have h := h.2.2.2.2.2.1 hk
    refine ax_mv 1 237 [some (.ref 222), some (ax_i x1), some (ax_i s0)] [.ref 222] rfl ?_
    refine ax_gR (v := .ref 255) (pc' := 240) ⟨_, rfl⟩ fl_12_107 ay_222 rfl rfl ?_
    refine ax_mv 2 242 [some (.ref 222), some (ax_i x1), some (ax_i s0)] [.ref 222, ax_i x1, .ref 255] rfl ?_
    refine ax_gR (v := .ref 255) (pc' := 245) ⟨_, rfl⟩ fl_12_107 ay_222 rfl rfl ?_
    refine ax_mv 1 246 [some (.ref 222), some (ax_i x1), some (ax_i s0)] [.ref 222, .ref 255, ax_i x1, .ref 255] rfl ?_
    refine ax_gR (v := .ref 245) (pc' := 249) ⟨_, rfl⟩ fl_12_77 ay_222 rfl rfl ?_
    refine ax_mv 1 250 [some (.ref 222), some (ax_i x1), some (ax_i s0)] [ax_i x1, .ref 245, .ref 255, ax_i x1, .ref 255] rfl ?_
    obtain ⟨o17, h⟩ := h
    refine ax_ild (n := 701) (pc' := 251) ⟨_, rfl⟩ ay_245 (by decide) o17 rfl ?_
    obtain ⟨o18, h⟩ := h
    refine ax_bld (n := 701) (pc' := 252) ⟨_, rfl⟩ ay_255 (by decide) o18 rfl ?_
    refine ax_if (p1 := 282) (p2 := 255) ⟨_, rfl⟩ (by decide) rfl (hg _ _) (fun hc => ?_) (fun hc => ?_)
    · have h := h.1 hc
      refine ax_mv 1 283 [some (.ref 222), some (ax_i x1), some (ax_i s0)] [ax_i 0, ax_i x1, .ref 255] rfl ?_
      obtain ⟨o19, h⟩ := h
      obtain ⟨V8, eV8⟩ : ∃ W9 : ax_V, W9 = ax_u V 255 x1 0 := ⟨_, rfl⟩
      have h := h V8 eV8
      have hg8 : ax_g V8 := eV8 ▸ ax_u_g hg (by decide)
      refine ax_bst (n := 701) (pc' := 284) ⟨_, rfl⟩ ay_ok ay_255 (by decide) o19 (by decide) eV8 rfl ?_
      refine ax_mv 1 360 [some (.ref 222), some (ax_i x1), some (ax_i s0)] [] rfl ?_
      exact ax_nret ⟨_, rfl⟩ rfl hg8 h
    · have h := h.2 hc
      refine ax_mv 1 256 [some (.ref 222), some (ax_i x1), some (ax_i s0)] [.ref 222, ax_i x1, .ref 255] rfl ?_
      refine ax_gR (v := .ref 255) (pc' := 259) ⟨_, rfl⟩ fl_12_107 ay_222 rfl rfl ?_
      refine ax_mv 1 260 [some (.ref 222), some (ax_i x1), some (ax_i s0)] [.ref 222, .ref 255, ax_i x1, .ref 255] rfl ?_
      refine ax_gR (v := .ref 246) (pc' := 263) ⟨_, rfl⟩ fl_12_80 ay_222 rfl rfl ?_
      refine ax_mv 1 264 [some (.ref 222), some (ax_i x1), some (ax_i s0)] [ax_i x1, .ref 246, .ref 255, ax_i x1, .ref 255] rfl ?_
      obtain ⟨o20, h⟩ := h
      refine ax_ild (n := 701) (pc' := 265) ⟨_, rfl⟩ ay_246 (by decide) o20 rfl ?_
      obtain ⟨o21, h⟩ := h
      refine ax_bld (n := 701) (pc' := 266) ⟨_, rfl⟩ ay_255 (by decide) o21 rfl ?_
      refine ax_if (p1 := 282) (p2 := 269) ⟨_, rfl⟩ (by decide) rfl (hg _ _) (fun hc => ?_) (fun hc => ?_)
      · have h := h.1 hc
        refine ax_mv 1 283 [some (.ref 222), some (ax_i x1), some (ax_i s0)] [ax_i 0, ax_i x1, .ref 255] rfl ?_
        obtain ⟨o22, h⟩ := h
        obtain ⟨V9, eV9⟩ : ∃ W9 : ax_V, W9 = ax_u V 255 x1 0 := ⟨_, rfl⟩
        have h := h V9 eV9
        have hg9 : ax_g V9 := eV9 ▸ ax_u_g hg (by decide)
        refine ax_bst (n := 701) (pc' := 284) ⟨_, rfl⟩ ay_ok ay_255 (by decide) o22 (by decide) eV9 rfl ?_
        refine ax_mv 1 360 [some (.ref 222), some (ax_i x1), some (ax_i s0)] [] rfl ?_
        exact ax_nret ⟨_, rfl⟩ rfl hg9 h
      · have h := h.2 hc
        refine ax_mv 1 270 [some (.ref 222), some (ax_i x1), some (ax_i s0)] [.ref 222, ax_i x1, .ref 255] rfl ?_
        refine ax_gR (v := .ref 282) (pc' := 273) ⟨_, rfl⟩ fl_12_188 ay_222 rfl rfl ?_
        refine ax_mv 1 274 [some (.ref 222), some (ax_i x1), some (ax_i s0)] [ax_i s0, .ref 282, ax_i x1, .ref 255] rfl ?_
        obtain ⟨o23, h⟩ := h
        refine ax_bld (n := 240) (pc' := 275) ⟨_, rfl⟩ ay_282 (by decide) o23 rfl ?_
        refine ax_if (p1 := 282) (p2 := 278) ⟨_, rfl⟩ (by decide) rfl (hg _ _) (fun hc => ?_) (fun hc => ?_)
        · have h := h.1 hc
          refine ax_mv 1 283 [some (.ref 222), some (ax_i x1), some (ax_i s0)] [ax_i 0, ax_i x1, .ref 255] rfl ?_
          obtain ⟨o24, h⟩ := h
          obtain ⟨V10, eV10⟩ : ∃ W9 : ax_V, W9 = ax_u V 255 x1 0 := ⟨_, rfl⟩
          have h := h V10 eV10
          have hg10 : ax_g V10 := eV10 ▸ ax_u_g hg (by decide)
          refine ax_bst (n := 701) (pc' := 284) ⟨_, rfl⟩ ay_ok ay_255 (by decide) o24 (by decide) eV10 rfl ?_
          refine ax_mv 1 360 [some (.ref 222), some (ax_i x1), some (ax_i s0)] [] rfl ?_
          exact ax_nret ⟨_, rfl⟩ rfl hg10 h
        · have h := h.2 hc
          refine ax_mv 2 283 [some (.ref 222), some (ax_i x1), some (ax_i s0)] [ax_i 1, ax_i x1, .ref 255] rfl ?_
          obtain ⟨o25, h⟩ := h
          obtain ⟨V11, eV11⟩ : ∃ W9 : ax_V, W9 = ax_u V 255 x1 1 := ⟨_, rfl⟩
          have h := h V11 eV11
          have hg11 : ax_g V11 := eV11 ▸ ax_u_g hg (by decide)
          refine ax_bst (n := 701) (pc' := 284) ⟨_, rfl⟩ ay_ok ay_255 (by decide) o25 (by decide) eV11 rfl ?_
          refine ax_mv 1 360 [some (.ref 222), some (ax_i x1), some (ax_i s0)] [] rfl ?_
          exact ax_nret ⟨_, rfl⟩ rfl hg11 h
  have tD : ¬ V 241 x1 = 0 → ¬ V 241 x1 = 1 → ¬ V 241 x1 = 3 → ¬ V 241 x1 = 22 → ¬ V 241 x1 = 2 → ¬ V 241 x1 = 6 → ¬ V 241 x1 = 19 → ¬ V 241 x1 = 20 → ¬ V 241 x1 = 21 → ax_R ay_lay ax_t d m_Model_findFirst 287 [some (.ref 222), some (ax_i x1), some (ax_i s0)] [] V (ax_Nr Φ) Θ := fun n0 n1 n2 n3 n4 n5 n6 n7 n8 => by
    have h := h.2.2.2.2.2.2 n0 n1 n2 n3 n4 n5 n6 n7 n8
    refine ax_mv 1 288 [some (.ref 222), some (ax_i x1), some (ax_i s0)] [.ref 222] rfl ?_
    refine ax_gR (v := .ref 255) (pc' := 291) ⟨_, rfl⟩ fl_12_107 ay_222 rfl rfl ?_
    refine ax_mv 2 293 [some (.ref 222), some (ax_i x1), some (ax_i s0)] [.ref 222, ax_i x1, .ref 255] rfl ?_
    refine ax_gR (v := .ref 255) (pc' := 296) ⟨_, rfl⟩ fl_12_107 ay_222 rfl rfl ?_
    refine ax_mv 1 297 [some (.ref 222), some (ax_i x1), some (ax_i s0)] [.ref 222, .ref 255, ax_i x1, .ref 255] rfl ?_
    refine ax_gR (v := .ref 245) (pc' := 300) ⟨_, rfl⟩ fl_12_77 ay_222 rfl rfl ?_
    refine ax_mv 1 301 [some (.ref 222), some (ax_i x1), some (ax_i s0)] [ax_i x1, .ref 245, .ref 255, ax_i x1, .ref 255] rfl ?_
    obtain ⟨o26, h⟩ := h
    refine ax_ild (n := 701) (pc' := 302) ⟨_, rfl⟩ ay_245 (by decide) o26 rfl ?_
    obtain ⟨o27, h⟩ := h
    refine ax_bld (n := 701) (pc' := 303) ⟨_, rfl⟩ ay_255 (by decide) o27 rfl ?_
    refine ax_if (p1 := 358) (p2 := 306) ⟨_, rfl⟩ (by decide) rfl (hg _ _) (fun hc => ?_) (fun hc => ?_)
    · have h := h.1 hc
      refine ax_mv 1 359 [some (.ref 222), some (ax_i x1), some (ax_i s0)] [ax_i 0, ax_i x1, .ref 255] rfl ?_
      obtain ⟨o28, h⟩ := h
      obtain ⟨V12, eV12⟩ : ∃ W9 : ax_V, W9 = ax_u V 255 x1 0 := ⟨_, rfl⟩
      have h := h V12 eV12
      have hg12 : ax_g V12 := eV12 ▸ ax_u_g hg (by decide)
      refine ax_bst (n := 701) (pc' := 360) ⟨_, rfl⟩ ay_ok ay_255 (by decide) o28 (by decide) eV12 rfl ?_
      exact ax_nret ⟨_, rfl⟩ rfl hg12 h
    · have h := h.2 hc
      refine ax_mv 1 307 [some (.ref 222), some (ax_i x1), some (ax_i s0)] [.ref 222, ax_i x1, .ref 255] rfl ?_
      refine ax_gR (v := .ref 246) (pc' := 310) ⟨_, rfl⟩ fl_12_80 ay_222 rfl rfl ?_
      refine ax_mv 1 311 [some (.ref 222), some (ax_i x1), some (ax_i s0)] [ax_i x1, .ref 246, ax_i x1, .ref 255] rfl ?_
      obtain ⟨o29, h⟩ := h
      refine ax_ild (n := 701) (pc' := 312) ⟨_, rfl⟩ ay_246 (by decide) o29 rfl ?_
      refine ax_mv 1 313 [some (.ref 222), some (ax_i x1), some (ax_i s0)] [ax_i (-1), ax_i (V 246 x1), ax_i x1, .ref 255] rfl ?_
      refine ax_if2 (p1 := 330) (p2 := 316) ⟨_, rfl⟩ (by decide) rfl (hg _ _) (by decide) (fun hc => ?_) (fun hc => ?_)
      · have h := h.1 hc
        refine ax_mv 1 331 [some (.ref 222), some (ax_i x1), some (ax_i s0)] [.ref 222, ax_i x1, .ref 255] rfl ?_
        refine ax_gR (v := .ref 247) (pc' := 334) ⟨_, rfl⟩ fl_12_83 ay_222 rfl rfl ?_
        refine ax_mv 1 335 [some (.ref 222), some (ax_i x1), some (ax_i s0)] [ax_i x1, .ref 247, ax_i x1, .ref 255] rfl ?_
        obtain ⟨o30, h⟩ := h
        refine ax_ild (n := 701) (pc' := 336) ⟨_, rfl⟩ ay_247 (by decide) o30 rfl ?_
        refine ax_mv 1 337 [some (.ref 222), some (ax_i x1), some (ax_i s0)] [ax_i (-1), ax_i (V 247 x1), ax_i x1, .ref 255] rfl ?_
        refine ax_if2 (p1 := 354) (p2 := 340) ⟨_, rfl⟩ (by decide) rfl (hg _ _) (by decide) (fun hc => ?_) (fun hc => ?_)
        · have h := h.1 hc
          refine ax_mv 2 359 [some (.ref 222), some (ax_i x1), some (ax_i s0)] [ax_i 1, ax_i x1, .ref 255] rfl ?_
          obtain ⟨o31, h⟩ := h
          obtain ⟨V13, eV13⟩ : ∃ W9 : ax_V, W9 = ax_u V 255 x1 1 := ⟨_, rfl⟩
          have h := h V13 eV13
          have hg13 : ax_g V13 := eV13 ▸ ax_u_g hg (by decide)
          refine ax_bst (n := 701) (pc' := 360) ⟨_, rfl⟩ ay_ok ay_255 (by decide) o31 (by decide) eV13 rfl ?_
          exact ax_nret ⟨_, rfl⟩ rfl hg13 h
        · have h := h.2 hc
          refine ax_mv 1 341 [some (.ref 222), some (ax_i x1), some (ax_i s0)] [.ref 222, ax_i x1, .ref 255] rfl ?_
          refine ax_gR (v := .ref 255) (pc' := 344) ⟨_, rfl⟩ fl_12_107 ay_222 rfl rfl ?_
          refine ax_mv 1 345 [some (.ref 222), some (ax_i x1), some (ax_i s0)] [.ref 222, .ref 255, ax_i x1, .ref 255] rfl ?_
          refine ax_gR (v := .ref 247) (pc' := 348) ⟨_, rfl⟩ fl_12_83 ay_222 rfl rfl ?_
          refine ax_mv 1 349 [some (.ref 222), some (ax_i x1), some (ax_i s0)] [ax_i x1, .ref 247, .ref 255, ax_i x1, .ref 255] rfl ?_
          obtain ⟨o32, h⟩ := h
          refine ax_ild (n := 701) (pc' := 350) ⟨_, rfl⟩ ay_247 (by decide) o32 rfl ?_
          obtain ⟨o33, h⟩ := h
          refine ax_bld (n := 701) (pc' := 351) ⟨_, rfl⟩ ay_255 (by decide) o33 rfl ?_
          refine ax_if (p1 := 358) (p2 := 354) ⟨_, rfl⟩ (by decide) rfl (hg _ _) (fun hc => ?_) (fun hc => ?_)
          · have h := h.1 hc
            refine ax_mv 1 359 [some (.ref 222), some (ax_i x1), some (ax_i s0)] [ax_i 0, ax_i x1, .ref 255] rfl ?_
            obtain ⟨o34, h⟩ := h
            obtain ⟨V14, eV14⟩ : ∃ W9 : ax_V, W9 = ax_u V 255 x1 0 := ⟨_, rfl⟩
            have h := h V14 eV14
            have hg14 : ax_g V14 := eV14 ▸ ax_u_g hg (by decide)
            refine ax_bst (n := 701) (pc' := 360) ⟨_, rfl⟩ ay_ok ay_255 (by decide) o34 (by decide) eV14 rfl ?_
            exact ax_nret ⟨_, rfl⟩ rfl hg14 h
          · have h := h.2 hc
            refine ax_mv 2 359 [some (.ref 222), some (ax_i x1), some (ax_i s0)] [ax_i 1, ax_i x1, .ref 255] rfl ?_
            obtain ⟨o35, h⟩ := h
            obtain ⟨V15, eV15⟩ : ∃ W9 : ax_V, W9 = ax_u V 255 x1 1 := ⟨_, rfl⟩
            have h := h V15 eV15
            have hg15 : ax_g V15 := eV15 ▸ ax_u_g hg (by decide)
            refine ax_bst (n := 701) (pc' := 360) ⟨_, rfl⟩ ay_ok ay_255 (by decide) o35 (by decide) eV15 rfl ?_
            exact ax_nret ⟨_, rfl⟩ rfl hg15 h
      · have h := h.2 hc
        refine ax_mv 1 317 [some (.ref 222), some (ax_i x1), some (ax_i s0)] [.ref 222, ax_i x1, .ref 255] rfl ?_
        refine ax_gR (v := .ref 255) (pc' := 320) ⟨_, rfl⟩ fl_12_107 ay_222 rfl rfl ?_
        refine ax_mv 1 321 [some (.ref 222), some (ax_i x1), some (ax_i s0)] [.ref 222, .ref 255, ax_i x1, .ref 255] rfl ?_
        refine ax_gR (v := .ref 246) (pc' := 324) ⟨_, rfl⟩ fl_12_80 ay_222 rfl rfl ?_
        refine ax_mv 1 325 [some (.ref 222), some (ax_i x1), some (ax_i s0)] [ax_i x1, .ref 246, .ref 255, ax_i x1, .ref 255] rfl ?_
        obtain ⟨o36, h⟩ := h
        refine ax_ild (n := 701) (pc' := 326) ⟨_, rfl⟩ ay_246 (by decide) o36 rfl ?_
        obtain ⟨o37, h⟩ := h
        refine ax_bld (n := 701) (pc' := 327) ⟨_, rfl⟩ ay_255 (by decide) o37 rfl ?_
        refine ax_if (p1 := 358) (p2 := 330) ⟨_, rfl⟩ (by decide) rfl (hg _ _) (fun hc => ?_) (fun hc => ?_)
        · have h := h.1 hc
          refine ax_mv 1 359 [some (.ref 222), some (ax_i x1), some (ax_i s0)] [ax_i 0, ax_i x1, .ref 255] rfl ?_
          obtain ⟨o38, h⟩ := h
          obtain ⟨V16, eV16⟩ : ∃ W9 : ax_V, W9 = ax_u V 255 x1 0 := ⟨_, rfl⟩
          have h := h V16 eV16
          have hg16 : ax_g V16 := eV16 ▸ ax_u_g hg (by decide)
          refine ax_bst (n := 701) (pc' := 360) ⟨_, rfl⟩ ay_ok ay_255 (by decide) o38 (by decide) eV16 rfl ?_
          exact ax_nret ⟨_, rfl⟩ rfl hg16 h
        · have h := h.2 hc
          refine ax_mv 1 331 [some (.ref 222), some (ax_i x1), some (ax_i s0)] [.ref 222, ax_i x1, .ref 255] rfl ?_
          refine ax_gR (v := .ref 247) (pc' := 334) ⟨_, rfl⟩ fl_12_83 ay_222 rfl rfl ?_
          refine ax_mv 1 335 [some (.ref 222), some (ax_i x1), some (ax_i s0)] [ax_i x1, .ref 247, ax_i x1, .ref 255] rfl ?_
          obtain ⟨o39, h⟩ := h
          refine ax_ild (n := 701) (pc' := 336) ⟨_, rfl⟩ ay_247 (by decide) o39 rfl ?_
          refine ax_mv 1 337 [some (.ref 222), some (ax_i x1), some (ax_i s0)] [ax_i (-1), ax_i (V 247 x1), ax_i x1, .ref 255] rfl ?_
          refine ax_if2 (p1 := 354) (p2 := 340) ⟨_, rfl⟩ (by decide) rfl (hg _ _) (by decide) (fun hc => ?_) (fun hc => ?_)
          · have h := h.1 hc
            refine ax_mv 2 359 [some (.ref 222), some (ax_i x1), some (ax_i s0)] [ax_i 1, ax_i x1, .ref 255] rfl ?_
            obtain ⟨o40, h⟩ := h
            obtain ⟨V17, eV17⟩ : ∃ W9 : ax_V, W9 = ax_u V 255 x1 1 := ⟨_, rfl⟩
            have h := h V17 eV17
            have hg17 : ax_g V17 := eV17 ▸ ax_u_g hg (by decide)
            refine ax_bst (n := 701) (pc' := 360) ⟨_, rfl⟩ ay_ok ay_255 (by decide) o40 (by decide) eV17 rfl ?_
            exact ax_nret ⟨_, rfl⟩ rfl hg17 h
          · have h := h.2 hc
            refine ax_mv 1 341 [some (.ref 222), some (ax_i x1), some (ax_i s0)] [.ref 222, ax_i x1, .ref 255] rfl ?_
            refine ax_gR (v := .ref 255) (pc' := 344) ⟨_, rfl⟩ fl_12_107 ay_222 rfl rfl ?_
            refine ax_mv 1 345 [some (.ref 222), some (ax_i x1), some (ax_i s0)] [.ref 222, .ref 255, ax_i x1, .ref 255] rfl ?_
            refine ax_gR (v := .ref 247) (pc' := 348) ⟨_, rfl⟩ fl_12_83 ay_222 rfl rfl ?_
            refine ax_mv 1 349 [some (.ref 222), some (ax_i x1), some (ax_i s0)] [ax_i x1, .ref 247, .ref 255, ax_i x1, .ref 255] rfl ?_
            obtain ⟨o41, h⟩ := h
            refine ax_ild (n := 701) (pc' := 350) ⟨_, rfl⟩ ay_247 (by decide) o41 rfl ?_
            obtain ⟨o42, h⟩ := h
            refine ax_bld (n := 701) (pc' := 351) ⟨_, rfl⟩ ay_255 (by decide) o42 rfl ?_
            refine ax_if (p1 := 358) (p2 := 354) ⟨_, rfl⟩ (by decide) rfl (hg _ _) (fun hc => ?_) (fun hc => ?_)
            · have h := h.1 hc
              refine ax_mv 1 359 [some (.ref 222), some (ax_i x1), some (ax_i s0)] [ax_i 0, ax_i x1, .ref 255] rfl ?_
              obtain ⟨o43, h⟩ := h
              obtain ⟨V18, eV18⟩ : ∃ W9 : ax_V, W9 = ax_u V 255 x1 0 := ⟨_, rfl⟩
              have h := h V18 eV18
              have hg18 : ax_g V18 := eV18 ▸ ax_u_g hg (by decide)
              refine ax_bst (n := 701) (pc' := 360) ⟨_, rfl⟩ ay_ok ay_255 (by decide) o43 (by decide) eV18 rfl ?_
              exact ax_nret ⟨_, rfl⟩ rfl hg18 h
            · have h := h.2 hc
              refine ax_mv 2 359 [some (.ref 222), some (ax_i x1), some (ax_i s0)] [ax_i 1, ax_i x1, .ref 255] rfl ?_
              obtain ⟨o44, h⟩ := h
              obtain ⟨V19, eV19⟩ : ∃ W9 : ax_V, W9 = ax_u V 255 x1 1 := ⟨_, rfl⟩
              have h := h V19 eV19
              have hg19 : ax_g V19 := eV19 ▸ ax_u_g hg (by decide)
              refine ax_bst (n := 701) (pc' := 360) ⟨_, rfl⟩ ay_ok ay_255 (by decide) o44 (by decide) eV19 rfl ?_
              exact ax_nret ⟨_, rfl⟩ rfl hg19 h
  by_cases e0 : V 241 x1 = 0
  · exact ax_tsC (off := 107) (p1 := 144) ⟨_, rfl⟩ (hg _ _) (by omega) (by omega) (by rw [e0]; rfl) (by decide) (t0 (Or.inl e0))
  by_cases e1 : V 241 x1 = 1
  · exact ax_tsC (off := 107) (p1 := 144) ⟨_, rfl⟩ (hg _ _) (by omega) (by omega) (by rw [e1]; rfl) (by decide) (t0 (Or.inr (Or.inl e1)))
  by_cases e2 : V 241 x1 = 2
  · exact ax_tsC (off := 117) (p1 := 154) ⟨_, rfl⟩ (hg _ _) (by omega) (by omega) (by rw [e2]; rfl) (by decide) (t1 (e2))
  by_cases e3 : V 241 x1 = 3
  · exact ax_tsC (off := 107) (p1 := 144) ⟨_, rfl⟩ (hg _ _) (by omega) (by omega) (by rw [e3]; rfl) (by decide) (t0 (Or.inr (Or.inr (Or.inl e3))))
  by_cases e4 : V 241 x1 = 4
  · exact ax_tsC (off := 250) (p1 := 287) ⟨_, rfl⟩ (hg _ _) (by omega) (by omega) (by rw [e4]; rfl) (by decide) (tD (by omega) (by omega) (by omega) (by omega) (by omega) (by omega) (by omega) (by omega) (by omega))
  by_cases e5 : V 241 x1 = 5
  · exact ax_tsC (off := 250) (p1 := 287) ⟨_, rfl⟩ (hg _ _) (by omega) (by omega) (by rw [e5]; rfl) (by decide) (tD (by omega) (by omega) (by omega) (by omega) (by omega) (by omega) (by omega) (by omega) (by omega))
  by_cases e6 : V 241 x1 = 6
  · exact ax_tsC (off := 132) (p1 := 169) ⟨_, rfl⟩ (hg _ _) (by omega) (by omega) (by rw [e6]; rfl) (by decide) (t2 (e6))
  by_cases e7 : V 241 x1 = 7
  · exact ax_tsC (off := 250) (p1 := 287) ⟨_, rfl⟩ (hg _ _) (by omega) (by omega) (by rw [e7]; rfl) (by decide) (tD (by omega) (by omega) (by omega) (by omega) (by omega) (by omega) (by omega) (by omega) (by omega))
  by_cases e8 : V 241 x1 = 8
  · exact ax_tsC (off := 250) (p1 := 287) ⟨_, rfl⟩ (hg _ _) (by omega) (by omega) (by rw [e8]; rfl) (by decide) (tD (by omega) (by omega) (by omega) (by omega) (by omega) (by omega) (by omega) (by omega) (by omega))
  by_cases e9 : V 241 x1 = 9
  · exact ax_tsC (off := 250) (p1 := 287) ⟨_, rfl⟩ (hg _ _) (by omega) (by omega) (by rw [e9]; rfl) (by decide) (tD (by omega) (by omega) (by omega) (by omega) (by omega) (by omega) (by omega) (by omega) (by omega))
  by_cases e10 : V 241 x1 = 10
  · exact ax_tsC (off := 250) (p1 := 287) ⟨_, rfl⟩ (hg _ _) (by omega) (by omega) (by rw [e10]; rfl) (by decide) (tD (by omega) (by omega) (by omega) (by omega) (by omega) (by omega) (by omega) (by omega) (by omega))
  by_cases e11 : V 241 x1 = 11
  · exact ax_tsC (off := 250) (p1 := 287) ⟨_, rfl⟩ (hg _ _) (by omega) (by omega) (by rw [e11]; rfl) (by decide) (tD (by omega) (by omega) (by omega) (by omega) (by omega) (by omega) (by omega) (by omega) (by omega))
  by_cases e12 : V 241 x1 = 12
  · exact ax_tsC (off := 250) (p1 := 287) ⟨_, rfl⟩ (hg _ _) (by omega) (by omega) (by rw [e12]; rfl) (by decide) (tD (by omega) (by omega) (by omega) (by omega) (by omega) (by omega) (by omega) (by omega) (by omega))
  by_cases e13 : V 241 x1 = 13
  · exact ax_tsC (off := 250) (p1 := 287) ⟨_, rfl⟩ (hg _ _) (by omega) (by omega) (by rw [e13]; rfl) (by decide) (tD (by omega) (by omega) (by omega) (by omega) (by omega) (by omega) (by omega) (by omega) (by omega))
  by_cases e14 : V 241 x1 = 14
  · exact ax_tsC (off := 250) (p1 := 287) ⟨_, rfl⟩ (hg _ _) (by omega) (by omega) (by rw [e14]; rfl) (by decide) (tD (by omega) (by omega) (by omega) (by omega) (by omega) (by omega) (by omega) (by omega) (by omega))
  by_cases e15 : V 241 x1 = 15
  · exact ax_tsC (off := 250) (p1 := 287) ⟨_, rfl⟩ (hg _ _) (by omega) (by omega) (by rw [e15]; rfl) (by decide) (tD (by omega) (by omega) (by omega) (by omega) (by omega) (by omega) (by omega) (by omega) (by omega))
  by_cases e16 : V 241 x1 = 16
  · exact ax_tsC (off := 250) (p1 := 287) ⟨_, rfl⟩ (hg _ _) (by omega) (by omega) (by rw [e16]; rfl) (by decide) (tD (by omega) (by omega) (by omega) (by omega) (by omega) (by omega) (by omega) (by omega) (by omega))
  by_cases e17 : V 241 x1 = 17
  · exact ax_tsC (off := 250) (p1 := 287) ⟨_, rfl⟩ (hg _ _) (by omega) (by omega) (by rw [e17]; rfl) (by decide) (tD (by omega) (by omega) (by omega) (by omega) (by omega) (by omega) (by omega) (by omega) (by omega))
  by_cases e18 : V 241 x1 = 18
  · exact ax_tsC (off := 250) (p1 := 287) ⟨_, rfl⟩ (hg _ _) (by omega) (by omega) (by rw [e18]; rfl) (by decide) (tD (by omega) (by omega) (by omega) (by omega) (by omega) (by omega) (by omega) (by omega) (by omega))
  by_cases e19 : V 241 x1 = 19
  · exact ax_tsC (off := 142) (p1 := 179) ⟨_, rfl⟩ (hg _ _) (by omega) (by omega) (by rw [e19]; rfl) (by decide) (t3 (e19))
  by_cases e20 : V 241 x1 = 20
  · exact ax_tsC (off := 162) (p1 := 199) ⟨_, rfl⟩ (hg _ _) (by omega) (by omega) (by rw [e20]; rfl) (by decide) (t4 (e20))
  by_cases e21 : V 241 x1 = 21
  · exact ax_tsC (off := 199) (p1 := 236) ⟨_, rfl⟩ (hg _ _) (by omega) (by omega) (by rw [e21]; rfl) (by decide) (t5 (e21))
  by_cases e22 : V 241 x1 = 22
  · exact ax_tsC (off := 107) (p1 := 144) ⟨_, rfl⟩ (hg _ _) (by omega) (by omega) (by rw [e22]; rfl) (by decide) (t0 (Or.inr (Or.inr (Or.inr (e22)))))
  exact ax_tsD (p1 := 287) ⟨_, rfl⟩ (hg _ _) (by omega) (by decide) (tD e0 e1 e3 e22 e2 e6 e19 e20 e21)
set_option maxRecDepth 20000 in
theorem r_Model_findFirst {d : Nat} {V : ax_V} {Φ : ax_V → Prop} {Θ : ax_V → Prop} {x1 : Int} (hg : ax_g V) (hx1 : ax_rg x1) (h : (0 ≤ x1 ∧ x1 < 701) ∧ ((V 248 x1 = -1 → k_Model_findFirst_30 d x1 none 0 V Φ Θ) ∧ (¬ V 248 x1 = -1 → (0 ≤ x1 ∧ x1 < 701) ∧ (0 ≤ x1 ∧ x1 < 701) ∧ k_Model_findFirst_30 d x1 none ((26 * (V 250 x1)) + (V 248 x1)) V Φ Θ))) : ax_N ay_lay (d + 1) q_Model_findFirst [.ref 222, ax_i x1] V Φ Θ := by
  refine ax_T.of (M := m_Model_findFirst) rfl (Nat.le_of_ble_eq_true rfl) ?_
  refine ax_mv 0 0 [some (.ref 222), some (ax_i x1), none] [] rfl ?_
  refine ax_mv 1 1 [some (.ref 222), some (ax_i x1), none] [.ref 222] rfl ?_
  refine ax_gR (v := .ref 248) (pc' := 4) ⟨_, rfl⟩ fl_12_86 ay_222 rfl rfl ?_
  refine ax_mv 1 5 [some (.ref 222), some (ax_i x1), none] [ax_i x1, .ref 248] rfl ?_
  obtain ⟨o45, h⟩ := h
  refine ax_ild (n := 701) (pc' := 6) ⟨_, rfl⟩ ay_248 (by decide) o45 rfl ?_
  refine ax_mv 1 7 [some (.ref 222), some (ax_i x1), none] [ax_i (-1), ax_i (V 248 x1)] rfl ?_
  refine ax_if2 (p1 := 14) (p2 := 10) ⟨_, rfl⟩ (by decide) rfl (hg _ _) (by decide) (fun hc => ?_) (fun hc => ?_)
  · have h := h.2 hc
    refine ax_bip (pc' := 16) ⟨_, rfl⟩ (by decide) rfl ?_
    refine ax_mv 1 17 [some (.ref 222), some (ax_i x1), none] [.ref 222, ax_i 26] rfl ?_
    refine ax_gR (v := .ref 250) (pc' := 20) ⟨_, rfl⟩ fl_12_92 ay_222 rfl rfl ?_
    refine ax_mv 1 21 [some (.ref 222), some (ax_i x1), none] [ax_i x1, .ref 250, ax_i 26] rfl ?_
    obtain ⟨o46, h⟩ := h
    refine ax_ild (n := 701) (pc' := 22) ⟨_, rfl⟩ ay_250 (by decide) o46 rfl ?_
    refine ax_mul (pc' := 23) ⟨_, rfl⟩ rfl ?_
    refine ax_mv 1 24 [some (.ref 222), some (ax_i x1), none] [.ref 222, ax_i (26 * (V 250 x1))] rfl ?_
    refine ax_gR (v := .ref 248) (pc' := 27) ⟨_, rfl⟩ fl_12_86 ay_222 rfl rfl ?_
    refine ax_mv 1 28 [some (.ref 222), some (ax_i x1), none] [ax_i x1, .ref 248, ax_i (26 * (V 250 x1))] rfl ?_
    obtain ⟨o47, h⟩ := h
    refine ax_ild (n := 701) (pc' := 29) ⟨_, rfl⟩ ay_248 (by decide) o47 rfl ?_
    refine ax_add (pc' := 30) ⟨_, rfl⟩ rfl ?_
    exact h
  · have h := h.1 (Classical.not_not.mp hc)
    refine ax_mv 2 30 [some (.ref 222), some (ax_i x1), none] [ax_i 0] rfl ?_
    exact h
abbrev k_Model_checkFirst_136 (d : Nat) (x1 : Int) (x2 : Int) (x3 : Int) (V : ax_V) (Φ : ax_V → Prop) (Θ : ax_V → Prop) : Prop := ax_R ay_lay ax_t d m_Model_checkFirst 136 [some (.ref 222), some (ax_i x1), some (ax_i x2), some (ax_i x3)] [] V (ax_Nr Φ) Θ
set_option maxRecDepth 20000 in
theorem r_Model_checkFirst_136 {d : Nat} {V : ax_V} {Φ : ax_V → Prop} {Θ : ax_V → Prop} {x1 : Int} {x2 : Int} {x3 : Int} (hg : ax_g V) (hx1 : ax_rg x1) (hx2 : ax_rg x2) (hx3 : ax_rg x3) (h : ((x3 = -1 → (0 ≤ x1 ∧ x1 < 701) ∧ ((V 248 x1 = -1 → Φ V) ∧ (¬ V 248 x1 = -1 → (0 ≤ x1 ∧ x1 < 701) ∧ (0 ≤ x1 ∧ x1 < 701) ∧ ax_N ay_lay d q_Model_letterMustHave [.ref 222, ax_i x2, ax_i (V 248 x1), ax_i (V 244 x1)] V (fun V1 => Φ V1) Θ))) ∧ (¬ x3 = -1 → ax_N ay_lay d q_Model_mustHave [.ref 222, ax_i x3] V (fun V2 => (0 ≤ x3 ∧ x3 < 701) ∧ k_Model_checkFirst_136 d x1 x2 (V2 252 x3) V2 Φ Θ) Θ))) : k_Model_checkFirst_136 d x1 x2 x3 V Φ Θ := by
  refine ax_mv 2 138 [some (.ref 222), some (ax_i x1), some (ax_i x2), some (ax_i x3)] [ax_i (-1), ax_i x3] rfl ?_
  refine ax_if2 (p1 := 156) (p2 := 141) ⟨_, rfl⟩ (by decide) rfl hx3 (by decide) (fun hc => ?_) (fun hc => ?_)
  · have h := h.1 hc
    refine ax_mv 1 157 [some (.ref 222), some (ax_i x1), some (ax_i x2), some (ax_i x3)] [.ref 222] rfl ?_
    refine ax_gR (v := .ref 248) (pc' := 160) ⟨_, rfl⟩ fl_12_86 ay_222 rfl rfl ?_
    refine ax_mv 1 161 [some (.ref 222), some (ax_i x1), some (ax_i x2), some (ax_i x3)] [ax_i x1, .ref 248] rfl ?_
    obtain ⟨o1, h⟩ := h
    refine ax_ild (n := 701) (pc' := 162) ⟨_, rfl⟩ ay_248 (by decide) o1 rfl ?_
    refine ax_mv 1 163 [some (.ref 222), some (ax_i x1), some (ax_i x2), some (ax_i x3)] [ax_i (-1), ax_i (V 248 x1)] rfl ?_
    refine ax_if2 (p1 := 186) (p2 := 166) ⟨_, rfl⟩ (by decide) rfl (hg _ _) (by decide) (fun hc => ?_) (fun hc => ?_)
    · have h := h.1 hc
      exact ax_nret ⟨_, rfl⟩ rfl hg h
    · have h := h.2 hc
      refine ax_mv 3 169 [some (.ref 222), some (ax_i x1), some (ax_i x2), some (ax_i x3)] [.ref 222, ax_i x2, .ref 222] rfl ?_
      refine ax_gR (v := .ref 248) (pc' := 172) ⟨_, rfl⟩ fl_12_86 ay_222 rfl rfl ?_
      refine ax_mv 1 173 [some (.ref 222), some (ax_i x1), some (ax_i x2), some (ax_i x3)] [ax_i x1, .ref 248, ax_i x2, .ref 222] rfl ?_
      obtain ⟨o2, h⟩ := h
      refine ax_ild (n := 701) (pc' := 174) ⟨_, rfl⟩ ay_248 (by decide) o2 rfl ?_
      refine ax_mv 1 175 [some (.ref 222), some (ax_i x1), some (ax_i x2), some (ax_i x3)] [.ref 222, ax_i (V 248 x1), ax_i x2, .ref 222] rfl ?_
      refine ax_gR (v := .ref 244) (pc' := 178) ⟨_, rfl⟩ fl_12_74 ay_222 rfl rfl ?_
      refine ax_mv 1 179 [some (.ref 222), some (ax_i x1), some (ax_i x2), some (ax_i x3)] [ax_i x1, .ref 244, ax_i (V 248 x1), ax_i x2, .ref 222] rfl ?_
      obtain ⟨o3, h⟩ := h
      refine ax_ild (n := 701) (pc' := 180) ⟨_, rfl⟩ ay_244 (by decide) o3 rfl ?_
      refine ax_callN (pc' := 183) ⟨_, rfl⟩ ml_12_509 (rest := []) rfl (fun ss hs => ⟨_, _, ay_222 ss hs⟩) (Nat.le_of_ble_eq_true rfl) rfl rfl h (fun V1 hg1 h => ?_)
      refine ax_mv 1 186 [some (.ref 222), some (ax_i x1), some (ax_i x2), some (ax_i x3)] [] rfl ?_
      exact ax_nret ⟨_, rfl⟩ rfl hg1 h
  · have h := h.2 hc
    refine ax_mv 2 143 [some (.ref 222), some (ax_i x1), some (ax_i x2), some (ax_i x3)] [ax_i x3, .ref 222] rfl ?_
    refine ax_callN (pc' := 146) ⟨_, rfl⟩ ml_12_506 (rest := []) rfl (fun ss hs => ⟨_, _, ay_222 ss hs⟩) (Nat.le_of_ble_eq_true rfl) rfl rfl h (fun V2 hg2 h => ?_)
    refine ax_mv 1 147 [some (.ref 222), some (ax_i x1), some (ax_i x2), some (ax_i x3)] [.ref 222] rfl ?_
    refine ax_gR (v := .ref 252) (pc' := 150) ⟨_, rfl⟩ fl_12_98 ay_222 rfl rfl ?_
    refine ax_mv 1 151 [some (.ref 222), some (ax_i x1), some (ax_i x2), some (ax_i x3)] [ax_i x3, .ref 252] rfl ?_
    obtain ⟨o4, h⟩ := h
    refine ax_ild (n := 701) (pc' := 152) ⟨_, rfl⟩ ay_252 (by decide) o4 rfl ?_
    refine ax_sti (i := 0) (k := 3) (n := 1) (pc' := 153) (L' := [some (.ref 222), some (ax_i x1), some (ax_i x2), some (ax_i (V2 252 x3))]) ⟨_, rfl⟩ rfl rfl rfl (Nat.le_of_ble_eq_true rfl) rfl rfl ?_
    refine ax_mv 1 136 [some (.ref 222), some (ax_i x1), some (ax_i x2), some (ax_i (V2 252 x3))] [] rfl ?_
    exact h
set_option maxRecDepth 20000 in
theorem r_Model_checkFirst {d : Nat} {V : ax_V} {Φ : ax_V → Prop} {Θ : ax_V → Prop} {x1 : Int} (hg : ax_g V) (hx1 : ax_rg x1) (h : (0 ≤ x1 ∧ x1 < 701) ∧ (0 ≤ x1 ∧ x1 < 701) ∧ (((V 241 x1 = 6 ∨ V 241 x1 = 18 ∨ V 241 x1 = 19) → (0 ≤ x1 ∧ x1 < 701) ∧ ax_N ay_lay d q_Model_mustHave [.ref 222, ax_i (V 245 x1)] V (fun V1 => Φ V1) Θ) ∧ ((V 241 x1 = 20 ∨ V 241 x1 = 21) → (0 ≤ x1 ∧ x1 < 701) ∧ (0 ≤ x1 ∧ x1 < 701) ∧ ax_N ay_lay d q_Model_letterMustHave [.ref 222, ax_i (V 250 x1), ax_i (V 248 x1), ax_i (V 244 x1)] V (fun V2 => Φ V2) Θ) ∧ (V 241 x1 = 22 → (0 ≤ x1 ∧ x1 < 701) ∧ k_Model_checkFirst_136 d x1 (V 250 x1) (V 245 x1) V Φ Θ) ∧ (¬ V 241 x1 = 6 → ¬ V 241 x1 = 18 → ¬ V 241 x1 = 19 → ¬ V 241 x1 = 20 → ¬ V 241 x1 = 21 → ¬ V 241 x1 = 22 → Φ V))) : ax_N ay_lay (d + 1) q_Model_checkFirst [.ref 222, ax_i x1] V Φ Θ := by
  refine ax_T.of (M := m_Model_checkFirst) rfl (Nat.le_of_ble_eq_true rfl) ?_
  refine ax_mv 0 0 [some (.ref 222), some (ax_i x1), none, none] [] rfl ?_
  refine ax_mv 1 1 [some (.ref 222), some (ax_i x1), none, none] [.ref 222] rfl ?_
  refine ax_gR (v := .ref 250) (pc' := 4) ⟨_, rfl⟩ fl_12_92 ay_222 rfl rfl ?_
  refine ax_mv 1 5 [some (.ref 222), some (ax_i x1), none, none] [ax_i x1, .ref 250] rfl ?_
  obtain ⟨o5, h⟩ := h
  refine ax_ild (n := 701) (pc' := 6) ⟨_, rfl⟩ ay_250 (by decide) o5 rfl ?_
  refine ax_sti (i := 0) (k := 2) (n := 1) (pc' := 7) (L' := [some (.ref 222), some (ax_i x1), some (ax_i (V 250 x1)), none]) ⟨_, rfl⟩ rfl rfl rfl (Nat.le_of_ble_eq_true rfl) rfl rfl ?_
  refine ax_mv 1 8 [some (.ref 222), some (ax_i x1), some (ax_i (V 250 x1)), none] [.ref 222] rfl ?_
  refine ax_gR (v := .ref 241) (pc' := 11) ⟨_, rfl⟩ fl_12_65 ay_222 rfl rfl ?_
  refine ax_mv 1 12 [some (.ref 222), some (ax_i x1), some (ax_i (V 250 x1)), none] [ax_i x1, .ref 241] rfl ?_
  obtain ⟨o6, h⟩ := h
  refine ax_ild (n := 701) (pc' := 13) ⟨_, rfl⟩ ay_241 (by decide) o6 rfl ?_
  have t0 : (V 241 x1 = 6 ∨ V 241 x1 = 18 ∨ V 241 x1 = 19) → ax_R ay_lay ax_t d m_Model_checkFirst 96 [some (.ref 222), some (ax_i x1), some (ax_i (V 250 x1)), none] [] V (ax_Nr Φ) Θ := fun hk => by
    have h := h.1 hk
    refine ax_mv 2 98 [some (.ref 222), some (ax_i x1), some (ax_i (V 250 x1)), none] [.ref 222, .ref 222] rfl ?_
    refine ax_gR (v := .ref 245) (pc' := 101) ⟨_, rfl⟩ fl_12_77 ay_222 rfl rfl ?_
    refine ax_mv 1 102 [some (.ref 222), some (ax_i x1), some (ax_i (V 250 x1)), none] [ax_i x1, .ref 245, .ref 222] rfl ?_
    obtain ⟨o7, h⟩ := h
    refine ax_ild (n := 701) (pc' := 103) ⟨_, rfl⟩ ay_245 (by decide) o7 rfl ?_
    refine ax_callN (pc' := 106) ⟨_, rfl⟩ ml_12_506 (rest := []) rfl (fun ss hs => ⟨_, _, ay_222 ss hs⟩) (Nat.le_of_ble_eq_true rfl) rfl rfl h (fun V1 hg1 h => ?_)
    refine ax_mv 1 186 [some (.ref 222), some (ax_i x1), some (ax_i (V 250 x1)), none] [] rfl ?_
    exact ax_nret ⟨_, rfl⟩ rfl hg1 h
  have t1 : (V 241 x1 = 20 ∨ V 241 x1 = 21) → ax_R ay_lay ax_t d m_Model_checkFirst 109 [some (.ref 222), some (ax_i x1), some (ax_i (V 250 x1)), none] [] V (ax_Nr Φ) Θ := fun hk => by
    have h := h.2.1 hk
    refine ax_mv 3 112 [some (.ref 222), some (ax_i x1), some (ax_i (V 250 x1)), none] [.ref 222, ax_i (V 250 x1), .ref 222] rfl ?_
    refine ax_gR (v := .ref 248) (pc' := 115) ⟨_, rfl⟩ fl_12_86 ay_222 rfl rfl ?_
    refine ax_mv 1 116 [some (.ref 222), some (ax_i x1), some (ax_i (V 250 x1)), none] [ax_i x1, .ref 248, ax_i (V 250 x1), .ref 222] rfl ?_
    obtain ⟨o8, h⟩ := h
    refine ax_ild (n := 701) (pc' := 117) ⟨_, rfl⟩ ay_248 (by decide) o8 rfl ?_
    refine ax_mv 1 118 [some (.ref 222), some (ax_i x1), some (ax_i (V 250 x1)), none] [.ref 222, ax_i (V 248 x1), ax_i (V 250 x1), .ref 222] rfl ?_
    refine ax_gR (v := .ref 244) (pc' := 121) ⟨_, rfl⟩ fl_12_74 ay_222 rfl rfl ?_
    refine ax_mv 1 122 [some (.ref 222), some (ax_i x1), some (ax_i (V 250 x1)), none] [ax_i x1, .ref 244, ax_i (V 248 x1), ax_i (V 250 x1), .ref 222] rfl ?_
    obtain ⟨o9, h⟩ := h
    refine ax_ild (n := 701) (pc' := 123) ⟨_, rfl⟩ ay_244 (by decide) o9 rfl ?_
    refine ax_callN (pc' := 126) ⟨_, rfl⟩ ml_12_509 (rest := []) rfl (fun ss hs => ⟨_, _, ay_222 ss hs⟩) (Nat.le_of_ble_eq_true rfl) rfl rfl h (fun V2 hg2 h => ?_)
    refine ax_mv 1 186 [some (.ref 222), some (ax_i x1), some (ax_i (V 250 x1)), none] [] rfl ?_
    exact ax_nret ⟨_, rfl⟩ rfl hg2 h
  have t2 : (V 241 x1 = 22) → ax_R ay_lay ax_t d m_Model_checkFirst 129 [some (.ref 222), some (ax_i x1), some (ax_i (V 250 x1)), none] [] V (ax_Nr Φ) Θ := fun hk => by
    have h := h.2.2.1 hk
    refine ax_mv 1 130 [some (.ref 222), some (ax_i x1), some (ax_i (V 250 x1)), none] [.ref 222] rfl ?_
    refine ax_gR (v := .ref 245) (pc' := 133) ⟨_, rfl⟩ fl_12_77 ay_222 rfl rfl ?_
    refine ax_mv 1 134 [some (.ref 222), some (ax_i x1), some (ax_i (V 250 x1)), none] [ax_i x1, .ref 245] rfl ?_
    obtain ⟨o10, h⟩ := h
    refine ax_ild (n := 701) (pc' := 135) ⟨_, rfl⟩ ay_245 (by decide) o10 rfl ?_
    refine ax_sti (i := 0) (k := 3) (n := 1) (pc' := 136) (L' := [some (.ref 222), some (ax_i x1), some (ax_i (V 250 x1)), some (ax_i (V 245 x1))]) ⟨_, rfl⟩ rfl rfl rfl (Nat.le_of_ble_eq_true rfl) rfl rfl ?_
    exact h
  have tD : ¬ V 241 x1 = 6 → ¬ V 241 x1 = 18 → ¬ V 241 x1 = 19 → ¬ V 241 x1 = 20 → ¬ V 241 x1 = 21 → ¬ V 241 x1 = 22 → ax_R ay_lay ax_t d m_Model_checkFirst 186 [some (.ref 222), some (ax_i x1), some (ax_i (V 250 x1)), none] [] V (ax_Nr Φ) Θ := fun n0 n1 n2 n3 n4 n5 => by
    have h := h.2.2.2 n0 n1 n2 n3 n4 n5
    exact ax_nret ⟨_, rfl⟩ rfl hg h
  by_cases e6 : V 241 x1 = 6
  · exact ax_tsC (off := 83) (p1 := 96) ⟨_, rfl⟩ (hg _ _) (by omega) (by omega) (by rw [e6]; rfl) (by decide) (t0 (Or.inl e6))
  by_cases e7 : V 241 x1 = 7
  · exact ax_tsC (off := 173) (p1 := 186) ⟨_, rfl⟩ (hg _ _) (by omega) (by omega) (by rw [e7]; rfl) (by decide) (tD (by omega) (by omega) (by omega) (by omega) (by omega) (by omega))
  by_cases e8 : V 241 x1 = 8
  · exact ax_tsC (off := 173) (p1 := 186) ⟨_, rfl⟩ (hg _ _) (by omega) (by omega) (by rw [e8]; rfl) (by decide) (tD (by omega) (by omega) (by omega) (by omega) (by omega) (by omega))
  by_cases e9 : V 241 x1 = 9
  · exact ax_tsC (off := 173) (p1 := 186) ⟨_, rfl⟩ (hg _ _) (by omega) (by omega) (by rw [e9]; rfl) (by decide) (tD (by omega) (by omega) (by omega) (by omega) (by omega) (by omega))
  by_cases e10 : V 241 x1 = 10
  · exact ax_tsC (off := 173) (p1 := 186) ⟨_, rfl⟩ (hg _ _) (by omega) (by omega) (by rw [e10]; rfl) (by decide) (tD (by omega) (by omega) (by omega) (by omega) (by omega) (by omega))
  by_cases e11 : V 241 x1 = 11
  · exact ax_tsC (off := 173) (p1 := 186) ⟨_, rfl⟩ (hg _ _) (by omega) (by omega) (by rw [e11]; rfl) (by decide) (tD (by omega) (by omega) (by omega) (by omega) (by omega) (by omega))
  by_cases e12 : V 241 x1 = 12
  · exact ax_tsC (off := 173) (p1 := 186) ⟨_, rfl⟩ (hg _ _) (by omega) (by omega) (by rw [e12]; rfl) (by decide) (tD (by omega) (by omega) (by omega) (by omega) (by omega) (by omega))
  by_cases e13 : V 241 x1 = 13
  · exact ax_tsC (off := 173) (p1 := 186) ⟨_, rfl⟩ (hg _ _) (by omega) (by omega) (by rw [e13]; rfl) (by decide) (tD (by omega) (by omega) (by omega) (by omega) (by omega) (by omega))
  by_cases e14 : V 241 x1 = 14
  · exact ax_tsC (off := 173) (p1 := 186) ⟨_, rfl⟩ (hg _ _) (by omega) (by omega) (by rw [e14]; rfl) (by decide) (tD (by omega) (by omega) (by omega) (by omega) (by omega) (by omega))
  by_cases e15 : V 241 x1 = 15
  · exact ax_tsC (off := 173) (p1 := 186) ⟨_, rfl⟩ (hg _ _) (by omega) (by omega) (by rw [e15]; rfl) (by decide) (tD (by omega) (by omega) (by omega) (by omega) (by omega) (by omega))
  by_cases e16 : V 241 x1 = 16
  · exact ax_tsC (off := 173) (p1 := 186) ⟨_, rfl⟩ (hg _ _) (by omega) (by omega) (by rw [e16]; rfl) (by decide) (tD (by omega) (by omega) (by omega) (by omega) (by omega) (by omega))
  by_cases e17 : V 241 x1 = 17
  · exact ax_tsC (off := 173) (p1 := 186) ⟨_, rfl⟩ (hg _ _) (by omega) (by omega) (by rw [e17]; rfl) (by decide) (tD (by omega) (by omega) (by omega) (by omega) (by omega) (by omega))
  by_cases e18 : V 241 x1 = 18
  · exact ax_tsC (off := 83) (p1 := 96) ⟨_, rfl⟩ (hg _ _) (by omega) (by omega) (by rw [e18]; rfl) (by decide) (t0 (Or.inr (Or.inl e18)))
  by_cases e19 : V 241 x1 = 19
  · exact ax_tsC (off := 83) (p1 := 96) ⟨_, rfl⟩ (hg _ _) (by omega) (by omega) (by rw [e19]; rfl) (by decide) (t0 (Or.inr (Or.inr (e19))))
  by_cases e20 : V 241 x1 = 20
  · exact ax_tsC (off := 96) (p1 := 109) ⟨_, rfl⟩ (hg _ _) (by omega) (by omega) (by rw [e20]; rfl) (by decide) (t1 (Or.inl e20))
  by_cases e21 : V 241 x1 = 21
  · exact ax_tsC (off := 96) (p1 := 109) ⟨_, rfl⟩ (hg _ _) (by omega) (by omega) (by rw [e21]; rfl) (by decide) (t1 (Or.inr (e21)))
  by_cases e22 : V 241 x1 = 22
  · exact ax_tsC (off := 116) (p1 := 129) ⟨_, rfl⟩ (hg _ _) (by omega) (by omega) (by rw [e22]; rfl) (by decide) (t2 (e22))
  exact ax_tsD (p1 := 186) ⟨_, rfl⟩ (hg _ _) (by omega) (by decide) (tD e6 e18 e19 e20 e21 e22)
theorem r_Model_mustHave {d : Nat} {V : ax_V} {Φ : ax_V → Prop} {Θ : ax_V → Prop} {x1 : Int} (hg : ax_g V) (hx1 : ax_rg x1) (h : (0 ≤ x1 ∧ x1 < 701) ∧ ((V 255 x1 = 0 → (0 ≤ x1 ∧ x1 < 701) ∧ ax_N ay_lay d q_Model_note [.ref 222, ax_i (V 242 x1)] V (fun V1 => Φ V1) Θ) ∧ (¬ V 255 x1 = 0 → Φ V))) : ax_N ay_lay (d + 1) q_Model_mustHave [.ref 222, ax_i x1] V Φ Θ := by
  refine ax_T.of (M := m_Model_mustHave) rfl (Nat.le_of_ble_eq_true rfl) ?_
  refine ax_mv 0 0 [some (.ref 222), some (ax_i x1)] [] rfl ?_
  refine ax_mv 1 1 [some (.ref 222), some (ax_i x1)] [.ref 222] rfl ?_
  refine ax_gR (v := .ref 255) (pc' := 4) ⟨_, rfl⟩ fl_12_107 ay_222 rfl rfl ?_
  refine ax_mv 1 5 [some (.ref 222), some (ax_i x1)] [ax_i x1, .ref 255] rfl ?_
  obtain ⟨o1, h⟩ := h
  refine ax_bld (n := 701) (pc' := 6) ⟨_, rfl⟩ ay_255 (by decide) o1 rfl ?_
  refine ax_if (p1 := 19) (p2 := 9) ⟨_, rfl⟩ (by decide) rfl (hg _ _) (fun hc => ?_) (fun hc => ?_)
  · have h := h.2 hc
    exact ax_nret ⟨_, rfl⟩ rfl hg h
  · have h := h.1 (Classical.not_not.mp hc)
    refine ax_mv 2 11 [some (.ref 222), some (ax_i x1)] [.ref 222, .ref 222] rfl ?_
    refine ax_gR (v := .ref 242) (pc' := 14) ⟨_, rfl⟩ fl_12_68 ay_222 rfl rfl ?_
    refine ax_mv 1 15 [some (.ref 222), some (ax_i x1)] [ax_i x1, .ref 242, .ref 222] rfl ?_
    obtain ⟨o2, h⟩ := h
    refine ax_ild (n := 701) (pc' := 16) ⟨_, rfl⟩ ay_242 (by decide) o2 rfl ?_
    refine ax_callN (pc' := 19) ⟨_, rfl⟩ ml_12_433 (rest := []) rfl (fun ss hs => ⟨_, _, ay_222 ss hs⟩) (Nat.le_of_ble_eq_true rfl) rfl rfl h (fun V1 hg1 h => ?_)
    exact ax_nret ⟨_, rfl⟩ rfl hg1 h
theorem r_Model_letterMustHave {d : Nat} {V : ax_V} {Φ : ax_V → Prop} {Θ : ax_V → Prop} {x1 : Int} {x2 : Int} {x3 : Int} (hg : ax_g V) (hx1 : ax_rg x1) (hx2 : ax_rg x2) (hx3 : ax_rg x3) (h : (0 ≤ (26 * x1) + x2 ∧ (26 * x1) + x2 < 240) ∧ ((V 282 ((26 * x1) + x2) = 0 → ax_N ay_lay d q_Model_note [.ref 222, ax_i x3] V (fun V1 => Φ V1) Θ) ∧ (¬ V 282 ((26 * x1) + x2) = 0 → Φ V))) : ax_N ay_lay (d + 1) q_Model_letterMustHave [.ref 222, ax_i x1, ax_i x2, ax_i x3] V Φ Θ := by
  refine ax_T.of (M := m_Model_letterMustHave) rfl (Nat.le_of_ble_eq_true rfl) ?_
  refine ax_mv 0 0 [some (.ref 222), some (ax_i x1), some (ax_i x2), some (ax_i x3)] [] rfl ?_
  refine ax_mv 1 1 [some (.ref 222), some (ax_i x1), some (ax_i x2), some (ax_i x3)] [.ref 222] rfl ?_
  refine ax_gR (v := .ref 282) (pc' := 4) ⟨_, rfl⟩ fl_12_188 ay_222 rfl rfl ?_
  refine ax_bip (pc' := 6) ⟨_, rfl⟩ (by decide) rfl ?_
  refine ax_mv 1 7 [some (.ref 222), some (ax_i x1), some (ax_i x2), some (ax_i x3)] [ax_i x1, ax_i 26, .ref 282] rfl ?_
  refine ax_mul (pc' := 8) ⟨_, rfl⟩ rfl ?_
  refine ax_mv 1 9 [some (.ref 222), some (ax_i x1), some (ax_i x2), some (ax_i x3)] [ax_i x2, ax_i (26 * x1), .ref 282] rfl ?_
  refine ax_add (pc' := 10) ⟨_, rfl⟩ rfl ?_
  obtain ⟨o1, h⟩ := h
  refine ax_bld (n := 240) (pc' := 11) ⟨_, rfl⟩ ay_282 (by decide) o1 rfl ?_
  refine ax_if (p1 := 19) (p2 := 14) ⟨_, rfl⟩ (by decide) rfl (hg _ _) (fun hc => ?_) (fun hc => ?_)
  · have h := h.2 hc
    exact ax_nret ⟨_, rfl⟩ rfl hg h
  · have h := h.1 (Classical.not_not.mp hc)
    refine ax_mv 2 16 [some (.ref 222), some (ax_i x1), some (ax_i x2), some (ax_i x3)] [ax_i x3, .ref 222] rfl ?_
    refine ax_callN (pc' := 19) ⟨_, rfl⟩ ml_12_433 (rest := []) rfl (fun ss hs => ⟨_, _, ay_222 ss hs⟩) (Nat.le_of_ble_eq_true rfl) rfl rfl h (fun V1 hg1 h => ?_)
    exact ax_nret ⟨_, rfl⟩ rfl hg1 h
