/-! RULES of the methods of the class: a method each, and each loop of it. PRINTED by wip/gen/rules.py -/
abbrev k_Judge_judgeClocks_10 (B : Nat) (r : Nat) (d : Nat) (x1 : Int) (x2 : Int) (y3 : Option Value) (y4 : Option Value) (V : ax_V) (Φ : ax_V → Prop) (Θ : ax_V → Prop) : Prop := ax_R (az_W B (az_EJ B r)) ax_t d m_Judge_judgeClocks 10 [some (.ref r), some (ax_i x1), some (ax_i x2), y3, y4] [] V (ax_Nr Φ) Θ
abbrev k_Judge_judgeClocks_55 (B : Nat) (r : Nat) (d : Nat) (x1 : Int) (x2 : Int) (y3 : Option Value) (y4 : Option Value) (V : ax_V) (Φ : ax_V → Prop) (Θ : ax_V → Prop) : Prop := ax_R (az_W B (az_EJ B r)) ax_t d m_Judge_judgeClocks 55 [some (.ref r), some (ax_i x1), some (ax_i x2), y3, y4] [] V (ax_Nr Φ) Θ
abbrev k_Judge_judgeClocks_107 (B : Nat) (r : Nat) (d : Nat) (x1 : Int) (x2 : Int) (x3 : Int) (x4 : Int) (V : ax_V) (Φ : ax_V → Prop) (Θ : ax_V → Prop) : Prop := ax_R (az_W B (az_EJ B r)) ax_t d m_Judge_judgeClocks 107 [some (.ref r), some (ax_i x1), some (ax_i x2), some (ax_i x3), some (ax_i x4)] [] V (ax_Nr Φ) Θ
set_option maxRecDepth 20000 in
theorem r_Judge_judgeClocks_10 {B : Nat} {r : Nat} {d : Nat} {V : ax_V} {Φ : ax_V → Prop} {Θ : ax_V → Prop} {x1 : Int} {x2 : Int} {y3 : Option Value} {y4 : Option Value} (hg : ax_g V) (hx1 : ax_rg x1) (hx2 : ax_rg x2) (hy3 : ax_y y3) (hy4 : ax_y y4) (h : (0 ≤ x1 + 1 ∧ x1 + 1 < 9) ∧ ((V 508 (x1 + 1) ≤ x2 → (0 ≤ x1 ∧ x1 < 9) ∧ k_Judge_judgeClocks_55 B r d x1 (V 509 x1) y3 y4 V Φ Θ) ∧ (x2 < V 508 (x1 + 1) → ax_I (az_W B (az_EJ B r)) d q_Judge_clockOf [.ref r, ax_i x2] V (fun r1 V1 => (0 ≤ x2 ∧ x2 < 700) ∧ (∀ V2, V2 = ax_u V1 529 x2 r1 → k_Judge_judgeClocks_10 B r d x1 (x2 + 1) y3 y4 V2 Φ Θ)) Θ))) : k_Judge_judgeClocks_10 B r d x1 x2 y3 y4 V Φ Θ := by
  refine ax_mv 2 12 [some (.ref r), some (ax_i x1), some (ax_i x2), y3, y4] [.ref r, ax_i x2] rfl ?_
  refine ax_gR (v := .ref B) (pc' := 15) ⟨_, rfl⟩ fl_3_15 (az_e 0 rfl) rfl rfl ?_
  refine ax_gR (v := .ref (B + 8)) (pc' := 18) ⟨_, rfl⟩ fl_3_149 (az_b 0 rfl) rfl rfl ?_
  refine ax_mv 2 20 [some (.ref r), some (ax_i x1), some (ax_i x2), y3, y4] [ax_i 1, ax_i x1, .ref (B + 8), ax_i x2] rfl ?_
  refine ax_add (pc' := 21) ⟨_, rfl⟩ rfl ?_
  obtain ⟨o1, h⟩ := h
  refine ax_ild (n := 9) (pc' := 22) ⟨_, rfl⟩ (az_b 8 rfl) (by decide) o1 rfl ?_
  refine ax_if2 (p1 := 45) (p2 := 25) ⟨_, rfl⟩ (by decide) rfl hx2 (hg _ _) (fun hc => ?_) (fun hc => ?_)
  · have h := h.1 hc
    refine ax_mv 1 46 [some (.ref r), some (ax_i x1), some (ax_i x2), y3, y4] [.ref r] rfl ?_
    refine ax_gR (v := .ref B) (pc' := 49) ⟨_, rfl⟩ fl_3_15 (az_e 0 rfl) rfl rfl ?_
    refine ax_gR (v := .ref (B + 9)) (pc' := 52) ⟨_, rfl⟩ fl_3_94 (az_b 0 rfl) rfl rfl ?_
    refine ax_mv 1 53 [some (.ref r), some (ax_i x1), some (ax_i x2), y3, y4] [ax_i x1, .ref (B + 9)] rfl ?_
    obtain ⟨o2, h⟩ := h
    refine ax_ild (n := 9) (pc' := 54) ⟨_, rfl⟩ (az_b 9 rfl) (by decide) o2 rfl ?_
    refine ax_sti (i := 0) (k := 2) (n := 1) (pc' := 55) (L' := [some (.ref r), some (ax_i x1), some (ax_i (V 509 x1)), y3, y4]) ⟨_, rfl⟩ rfl rfl rfl (Nat.le_of_ble_eq_true rfl) rfl rfl ?_
    exact h
  · have h := h.2 (Int.not_le.mp hc)
    refine ax_mv 1 26 [some (.ref r), some (ax_i x1), some (ax_i x2), y3, y4] [.ref r] rfl ?_
    refine ax_gR (v := .ref (B + 16)) (pc' := 29) ⟨_, rfl⟩ fl_3_25 (az_e 0 rfl) rfl rfl ?_
    refine ax_gR (v := .ref (B + 29)) (pc' := 32) ⟨_, rfl⟩ fl_3_248 (az_b 16 rfl) rfl rfl ?_
    refine ax_mv 3 35 [some (.ref r), some (ax_i x1), some (ax_i x2), y3, y4] [ax_i x2, .ref r, ax_i x2, .ref (B + 29)] rfl ?_
    refine ax_callI (pc' := 38) ⟨_, rfl⟩ ml_3_249 (rest := [ax_i x2, .ref (B + 29)]) rfl (fun ss hs => ⟨_, _, (az_e 0 rfl) ss hs⟩) (Nat.le_of_ble_eq_true rfl) rfl rfl h (fun r1 V1 hg1 hr1 h => ?_)
    obtain ⟨o3, h⟩ := h
    obtain ⟨V2, eV2⟩ : ∃ W9 : ax_V, W9 = ax_u V1 529 x2 r1 := ⟨_, rfl⟩
    have h := h V2 eV2
    have hg2 : ax_g V2 := eV2 ▸ ax_u_g hg1 hr1
    refine ax_ist (n := 700) (pc' := 39) ⟨_, rfl⟩ az_ok (az_b 29 rfl) (by decide) o3 eV2 rfl ?_
    refine ax_inc (x := x2) (pc' := 42) (L' := [some (.ref r), some (ax_i x1), some (ax_i (x2 + 1)), y3, y4]) ⟨_, rfl⟩ rfl rfl rfl rfl ?_
    refine ax_mv 1 10 [some (.ref r), some (ax_i x1), some (ax_i (x2 + 1)), y3, y4] [] rfl ?_
    exact h
set_option maxRecDepth 20000 in
theorem r_Judge_judgeClocks_55 {B : Nat} {r : Nat} {d : Nat} {V : ax_V} {Φ : ax_V → Prop} {Θ : ax_V → Prop} {x1 : Int} {x2 : Int} {y3 : Option Value} {y4 : Option Value} (hg : ax_g V) (hx1 : ax_rg x1) (hx2 : ax_rg x2) (hy3 : ax_y y3) (hy4 : ax_y y4) (h : (0 ≤ x1 + 1 ∧ x1 + 1 < 9) ∧ ((V 509 (x1 + 1) ≤ x2 → Φ V) ∧ (x2 < V 509 (x1 + 1) → (0 ≤ x2 ∧ x2 < 351) ∧ (0 ≤ V 548 x2 ∧ V 548 x2 < 350) ∧ (0 ≤ V 554 (V 548 x2) ∧ V 554 (V 548 x2) < 208) ∧ (0 ≤ x2 ∧ x2 < 351) ∧ k_Judge_judgeClocks_107 B r d x1 x2 (V 536 (V 554 (V 548 x2))) (V 548 x2) V Φ Θ))) : k_Judge_judgeClocks_55 B r d x1 x2 y3 y4 V Φ Θ := by
  refine ax_mv 2 57 [some (.ref r), some (ax_i x1), some (ax_i x2), y3, y4] [.ref r, ax_i x2] rfl ?_
  refine ax_gR (v := .ref B) (pc' := 60) ⟨_, rfl⟩ fl_3_15 (az_e 0 rfl) rfl rfl ?_
  refine ax_gR (v := .ref (B + 9)) (pc' := 63) ⟨_, rfl⟩ fl_3_94 (az_b 0 rfl) rfl rfl ?_
  refine ax_mv 2 65 [some (.ref r), some (ax_i x1), some (ax_i x2), y3, y4] [ax_i 1, ax_i x1, .ref (B + 9), ax_i x2] rfl ?_
  refine ax_add (pc' := 66) ⟨_, rfl⟩ rfl ?_
  obtain ⟨o4, h⟩ := h
  refine ax_ild (n := 9) (pc' := 67) ⟨_, rfl⟩ (az_b 9 rfl) (by decide) o4 rfl ?_
  refine ax_if2 (p1 := 190) (p2 := 70) ⟨_, rfl⟩ (by decide) rfl hx2 (hg _ _) (fun hc => ?_) (fun hc => ?_)
  · have h := h.1 hc
    exact ax_nret ⟨_, rfl⟩ rfl hg h
  · have h := h.2 (Int.not_le.mp hc)
    refine ax_mv 1 71 [some (.ref r), some (ax_i x1), some (ax_i x2), y3, y4] [.ref r] rfl ?_
    refine ax_gR (v := .ref (B + 32)) (pc' := 74) ⟨_, rfl⟩ fl_3_30 (az_e 0 rfl) rfl rfl ?_
    refine ax_gR (v := .ref (B + 36)) (pc' := 77) ⟨_, rfl⟩ fl_3_193 (az_b 32 rfl) rfl rfl ?_
    refine ax_mv 1 78 [some (.ref r), some (ax_i x1), some (ax_i x2), y3, y4] [.ref r, .ref (B + 36)] rfl ?_
    refine ax_gR (v := .ref (B + 47)) (pc' := 81) ⟨_, rfl⟩ fl_3_35 (az_e 0 rfl) rfl rfl ?_
    refine ax_gR (v := .ref (B + 54)) (pc' := 84) ⟨_, rfl⟩ fl_3_102 (az_b 47 rfl) rfl rfl ?_
    refine ax_mv 1 85 [some (.ref r), some (ax_i x1), some (ax_i x2), y3, y4] [.ref r, .ref (B + 54), .ref (B + 36)] rfl ?_
    refine ax_gR (v := .ref (B + 47)) (pc' := 88) ⟨_, rfl⟩ fl_3_35 (az_e 0 rfl) rfl rfl ?_
    refine ax_gR (v := .ref (B + 48)) (pc' := 91) ⟨_, rfl⟩ fl_3_97 (az_b 47 rfl) rfl rfl ?_
    refine ax_mv 1 92 [some (.ref r), some (ax_i x1), some (ax_i x2), y3, y4] [ax_i x2, .ref (B + 48), .ref (B + 54), .ref (B + 36)] rfl ?_
    obtain ⟨o5, h⟩ := h
    refine ax_ild (n := 351) (pc' := 93) ⟨_, rfl⟩ (az_b 48 rfl) (by decide) o5 rfl ?_
    obtain ⟨o6, h⟩ := h
    refine ax_ild (n := 350) (pc' := 94) ⟨_, rfl⟩ (az_b 54 rfl) (by decide) o6 rfl ?_
    obtain ⟨o7, h⟩ := h
    refine ax_ild (n := 208) (pc' := 95) ⟨_, rfl⟩ (az_b 36 rfl) (by decide) o7 rfl ?_
    refine ax_sti (i := 0) (k := 3) (n := 1) (pc' := 96) (L' := [some (.ref r), some (ax_i x1), some (ax_i x2), some (ax_i (V 536 (V 554 (V 548 x2)))), y4]) ⟨_, rfl⟩ rfl rfl rfl (Nat.le_of_ble_eq_true rfl) rfl rfl ?_
    refine ax_mv 1 97 [some (.ref r), some (ax_i x1), some (ax_i x2), some (ax_i (V 536 (V 554 (V 548 x2)))), y4] [.ref r] rfl ?_
    refine ax_gR (v := .ref (B + 47)) (pc' := 100) ⟨_, rfl⟩ fl_3_35 (az_e 0 rfl) rfl rfl ?_
    refine ax_gR (v := .ref (B + 48)) (pc' := 103) ⟨_, rfl⟩ fl_3_97 (az_b 47 rfl) rfl rfl ?_
    refine ax_mv 1 104 [some (.ref r), some (ax_i x1), some (ax_i x2), some (ax_i (V 536 (V 554 (V 548 x2)))), y4] [ax_i x2, .ref (B + 48)] rfl ?_
    obtain ⟨o8, h⟩ := h
    refine ax_ild (n := 351) (pc' := 105) ⟨_, rfl⟩ (az_b 48 rfl) (by decide) o8 rfl ?_
    refine ax_sti (i := 0) (k := 4) (n := 2) (pc' := 107) (L' := [some (.ref r), some (ax_i x1), some (ax_i x2), some (ax_i (V 536 (V 554 (V 548 x2)))), some (ax_i (V 548 x2))]) ⟨_, rfl⟩ rfl rfl rfl (Nat.le_of_ble_eq_true rfl) rfl rfl ?_
    exact h
set_option maxRecDepth 20000 in
theorem r_Judge_judgeClocks_107 {B : Nat} {r : Nat} {d : Nat} {V : ax_V} {Φ : ax_V → Prop} {Θ : ax_V → Prop} {x1 : Int} {x2 : Int} {x3 : Int} {x4 : Int} (hg : ax_g V) (hx1 : ax_rg x1) (hx2 : ax_rg x2) (hx3 : ax_rg x3) (hx4 : ax_rg x4) (h : (0 ≤ x2 + 1 ∧ x2 + 1 < 351) ∧ ((V 548 (x2 + 1) ≤ x4 → (0 ≤ x2 ∧ x2 < 350) ∧ ax_N (az_W B (az_EJ B r)) d q_Judge_mustBeOn [.ref r, ax_i (V 550 x2), ax_i x3] V (fun V1 => k_Judge_judgeClocks_55 B r d x1 (x2 + 1) (some (ax_i x3)) (some (ax_i x4)) V1 Φ Θ) Θ) ∧ (x4 < V 548 (x2 + 1) → (0 ≤ x4 ∧ x4 < 350) ∧ (0 ≤ V 554 x4 ∧ V 554 x4 < 208) ∧ ((V 536 (V 554 x4) = x3 → (0 ≤ x4 ∧ x4 < 350) ∧ ax_N (az_W B (az_EJ B r)) d q_Judge_blameIf [.ref r, ax_i 0, ax_i (V 555 x4)] V (fun V2 => k_Judge_judgeClocks_107 B r d x1 x2 x3 (x4 + 1) V2 Φ Θ) Θ) ∧ (¬ V 536 (V 554 x4) = x3 → (0 ≤ x4 ∧ x4 < 350) ∧ ax_N (az_W B (az_EJ B r)) d q_Judge_blameIf [.ref r, ax_i 1, ax_i (V 555 x4)] V (fun V3 => k_Judge_judgeClocks_107 B r d x1 x2 x3 (x4 + 1) V3 Φ Θ) Θ))))) : k_Judge_judgeClocks_107 B r d x1 x2 x3 x4 V Φ Θ := by
  refine ax_mv 2 110 [some (.ref r), some (ax_i x1), some (ax_i x2), some (ax_i x3), some (ax_i x4)] [.ref r, ax_i x4] rfl ?_
  refine ax_gR (v := .ref (B + 47)) (pc' := 113) ⟨_, rfl⟩ fl_3_35 (az_e 0 rfl) rfl rfl ?_
  refine ax_gR (v := .ref (B + 48)) (pc' := 116) ⟨_, rfl⟩ fl_3_97 (az_b 47 rfl) rfl rfl ?_
  refine ax_mv 2 118 [some (.ref r), some (ax_i x1), some (ax_i x2), some (ax_i x3), some (ax_i x4)] [ax_i 1, ax_i x2, .ref (B + 48), ax_i x4] rfl ?_
  refine ax_add (pc' := 119) ⟨_, rfl⟩ rfl ?_
  obtain ⟨o9, h⟩ := h
  refine ax_ild (n := 351) (pc' := 120) ⟨_, rfl⟩ (az_b 48 rfl) (by decide) o9 rfl ?_
  refine ax_if2 (p1 := 170) (p2 := 123) ⟨_, rfl⟩ (by decide) rfl hx4 (hg _ _) (fun hc => ?_) (fun hc => ?_)
  · have h := h.1 hc
    refine ax_mv 2 172 [some (.ref r), some (ax_i x1), some (ax_i x2), some (ax_i x3), some (ax_i x4)] [.ref r, .ref r] rfl ?_
    refine ax_gR (v := .ref (B + 47)) (pc' := 175) ⟨_, rfl⟩ fl_3_35 (az_e 0 rfl) rfl rfl ?_
    refine ax_gR (v := .ref (B + 50)) (pc' := 178) ⟨_, rfl⟩ fl_3_245 (az_b 47 rfl) rfl rfl ?_
    refine ax_mv 1 179 [some (.ref r), some (ax_i x1), some (ax_i x2), some (ax_i x3), some (ax_i x4)] [ax_i x2, .ref (B + 50), .ref r] rfl ?_
    obtain ⟨o10, h⟩ := h
    refine ax_ild (n := 350) (pc' := 180) ⟨_, rfl⟩ (az_b 50 rfl) (by decide) o10 rfl ?_
    refine ax_mv 1 181 [some (.ref r), some (ax_i x1), some (ax_i x2), some (ax_i x3), some (ax_i x4)] [ax_i x3, ax_i (V 550 x2), .ref r] rfl ?_
    refine ax_callN (pc' := 184) ⟨_, rfl⟩ ml_3_252 (rest := []) rfl (fun ss hs => ⟨_, _, (az_e 0 rfl) ss hs⟩) (Nat.le_of_ble_eq_true rfl) rfl rfl h (fun V1 hg1 h => ?_)
    refine ax_inc (x := x2) (pc' := 187) (L' := [some (.ref r), some (ax_i x1), some (ax_i (x2 + 1)), some (ax_i x3), some (ax_i x4)]) ⟨_, rfl⟩ rfl rfl rfl rfl ?_
    refine ax_mv 1 55 [some (.ref r), some (ax_i x1), some (ax_i (x2 + 1)), some (ax_i x3), some (ax_i x4)] [] rfl ?_
    exact h
  · have h := h.2 (Int.not_le.mp hc)
    refine ax_mv 2 125 [some (.ref r), some (ax_i x1), some (ax_i x2), some (ax_i x3), some (ax_i x4)] [.ref r, .ref r] rfl ?_
    refine ax_gR (v := .ref (B + 32)) (pc' := 128) ⟨_, rfl⟩ fl_3_30 (az_e 0 rfl) rfl rfl ?_
    refine ax_gR (v := .ref (B + 36)) (pc' := 131) ⟨_, rfl⟩ fl_3_193 (az_b 32 rfl) rfl rfl ?_
    refine ax_mv 1 132 [some (.ref r), some (ax_i x1), some (ax_i x2), some (ax_i x3), some (ax_i x4)] [.ref r, .ref (B + 36), .ref r] rfl ?_
    refine ax_gR (v := .ref (B + 47)) (pc' := 135) ⟨_, rfl⟩ fl_3_35 (az_e 0 rfl) rfl rfl ?_
    refine ax_gR (v := .ref (B + 54)) (pc' := 138) ⟨_, rfl⟩ fl_3_102 (az_b 47 rfl) rfl rfl ?_
    refine ax_mv 1 140 [some (.ref r), some (ax_i x1), some (ax_i x2), some (ax_i x3), some (ax_i x4)] [ax_i x4, .ref (B + 54), .ref (B + 36), .ref r] rfl ?_
    obtain ⟨o11, h⟩ := h
    refine ax_ild (n := 350) (pc' := 141) ⟨_, rfl⟩ (az_b 54 rfl) (by decide) o11 rfl ?_
    obtain ⟨o12, h⟩ := h
    refine ax_ild (n := 208) (pc' := 142) ⟨_, rfl⟩ (az_b 36 rfl) (by decide) o12 rfl ?_
    refine ax_mv 1 143 [some (.ref r), some (ax_i x1), some (ax_i x2), some (ax_i x3), some (ax_i x4)] [ax_i x3, ax_i (V 536 (V 554 x4)), .ref r] rfl ?_
    refine ax_if2 (p1 := 150) (p2 := 146) ⟨_, rfl⟩ (by decide) rfl (hg _ _) hx3 (fun hc => ?_) (fun hc => ?_)
    · have h := h.1 hc
      refine ax_mv 2 152 [some (.ref r), some (ax_i x1), some (ax_i x2), some (ax_i x3), some (ax_i x4)] [.ref r, ax_i 0, .ref r] rfl ?_
      refine ax_gR (v := .ref (B + 47)) (pc' := 155) ⟨_, rfl⟩ fl_3_35 (az_e 0 rfl) rfl rfl ?_
      refine ax_gR (v := .ref (B + 55)) (pc' := 158) ⟨_, rfl⟩ fl_3_105 (az_b 47 rfl) rfl rfl ?_
      refine ax_mv 1 160 [some (.ref r), some (ax_i x1), some (ax_i x2), some (ax_i x3), some (ax_i x4)] [ax_i x4, .ref (B + 55), ax_i 0, .ref r] rfl ?_
      obtain ⟨o13, h⟩ := h
      refine ax_ild (n := 350) (pc' := 161) ⟨_, rfl⟩ (az_b 55 rfl) (by decide) o13 rfl ?_
      refine ax_callN (pc' := 164) ⟨_, rfl⟩ ml_3_123 (rest := []) rfl (fun ss hs => ⟨_, _, (az_e 0 rfl) ss hs⟩) (Nat.le_of_ble_eq_true rfl) rfl rfl h (fun V2 hg2 h => ?_)
      refine ax_inc (x := x4) (pc' := 167) (L' := [some (.ref r), some (ax_i x1), some (ax_i x2), some (ax_i x3), some (ax_i (x4 + 1))]) ⟨_, rfl⟩ rfl rfl rfl rfl ?_
      refine ax_mv 1 107 [some (.ref r), some (ax_i x1), some (ax_i x2), some (ax_i x3), some (ax_i (x4 + 1))] [] rfl ?_
      exact h
    · have h := h.2 hc
      refine ax_mv 3 152 [some (.ref r), some (ax_i x1), some (ax_i x2), some (ax_i x3), some (ax_i x4)] [.ref r, ax_i 1, .ref r] rfl ?_
      refine ax_gR (v := .ref (B + 47)) (pc' := 155) ⟨_, rfl⟩ fl_3_35 (az_e 0 rfl) rfl rfl ?_
      refine ax_gR (v := .ref (B + 55)) (pc' := 158) ⟨_, rfl⟩ fl_3_105 (az_b 47 rfl) rfl rfl ?_
      refine ax_mv 1 160 [some (.ref r), some (ax_i x1), some (ax_i x2), some (ax_i x3), some (ax_i x4)] [ax_i x4, .ref (B + 55), ax_i 1, .ref r] rfl ?_
      obtain ⟨o14, h⟩ := h
      refine ax_ild (n := 350) (pc' := 161) ⟨_, rfl⟩ (az_b 55 rfl) (by decide) o14 rfl ?_
      refine ax_callN (pc' := 164) ⟨_, rfl⟩ ml_3_123 (rest := []) rfl (fun ss hs => ⟨_, _, (az_e 0 rfl) ss hs⟩) (Nat.le_of_ble_eq_true rfl) rfl rfl h (fun V3 hg3 h => ?_)
      refine ax_inc (x := x4) (pc' := 167) (L' := [some (.ref r), some (ax_i x1), some (ax_i x2), some (ax_i x3), some (ax_i (x4 + 1))]) ⟨_, rfl⟩ rfl rfl rfl rfl ?_
      refine ax_mv 1 107 [some (.ref r), some (ax_i x1), some (ax_i x2), some (ax_i x3), some (ax_i (x4 + 1))] [] rfl ?_
      exact h
set_option maxRecDepth 20000 in
theorem r_Judge_judgeClocks {B : Nat} {r : Nat} {d : Nat} {V : ax_V} {Φ : ax_V → Prop} {Θ : ax_V → Prop} {x1 : Int} (hg : ax_g V) (hx1 : ax_rg x1) (h : (0 ≤ x1 ∧ x1 < 9) ∧ k_Judge_judgeClocks_10 B r d x1 (V 508 x1) none none V Φ Θ) : ax_N (az_W B (az_EJ B r)) (d + 1) q_Judge_judgeClocks [.ref r, ax_i x1] V Φ Θ := by
  refine ax_T.of (M := m_Judge_judgeClocks) rfl (Nat.le_of_ble_eq_true rfl) ?_
  refine ax_mv 0 0 [some (.ref r), some (ax_i x1), none, none, none] [] rfl ?_
  refine ax_mv 1 1 [some (.ref r), some (ax_i x1), none, none, none] [.ref r] rfl ?_
  refine ax_gR (v := .ref B) (pc' := 4) ⟨_, rfl⟩ fl_3_15 (az_e 0 rfl) rfl rfl ?_
  refine ax_gR (v := .ref (B + 8)) (pc' := 7) ⟨_, rfl⟩ fl_3_149 (az_b 0 rfl) rfl rfl ?_
  refine ax_mv 1 8 [some (.ref r), some (ax_i x1), none, none, none] [ax_i x1, .ref (B + 8)] rfl ?_
  obtain ⟨o15, h⟩ := h
  refine ax_ild (n := 9) (pc' := 9) ⟨_, rfl⟩ (az_b 8 rfl) (by decide) o15 rfl ?_
  refine ax_sti (i := 0) (k := 2) (n := 1) (pc' := 10) (L' := [some (.ref r), some (ax_i x1), some (ax_i (V 508 x1)), none, none]) ⟨_, rfl⟩ rfl rfl rfl (Nat.le_of_ble_eq_true rfl) rfl rfl ?_
  exact h
set_option maxRecDepth 20000 in
theorem r_Judge_clockOf {B : Nat} {r : Nat} {d : Nat} {V : ax_V} {Φ : Int → ax_V → Prop} {Θ : ax_V → Prop} {x1 : Int} (hg : ax_g V) (hx1 : ax_rg x1) (h : (0 ≤ x1 ∧ x1 < 700) ∧ (0 ≤ x1 ∧ x1 < 700) ∧ (0 ≤ x1 ∧ x1 < 700) ∧ ((V 517 x1 = 0 → Φ (-2) V) ∧ (V 517 x1 = 1 → Φ (-2) V) ∧ (V 517 x1 = 2 → (0 ≤ V 520 x1 ∧ V 520 x1 < 208) ∧ Φ (V 536 (V 520 x1)) V) ∧ (V 517 x1 = 3 → (0 ≤ V 520 x1 ∧ V 520 x1 < 208) ∧ Φ (V 536 (V 520 x1)) V) ∧ (V 517 x1 = 20 → (0 ≤ ax_shr (V 520 x1) 1 ∧ ax_shr (V 520 x1) 1 < 208) ∧ ax_N (az_W B (az_EJ B r)) d q_Judge_mustBeOn [.ref r, ax_i (V 521 x1), ax_i (V 536 (ax_shr (V 520 x1) 1))] V (fun V1 => Φ (V 520 x1) V1) Θ) ∧ (V 517 x1 = 21 → ax_N (az_W B (az_EJ B r)) d q_Judge_mustBeOn [.ref r, ax_i (V 521 x1), ax_i (2 * (V 520 x1))] V (fun V2 => (0 ≤ V 521 x1 ∧ V 521 x1 < 700) ∧ ax_N (az_W B (az_EJ B r)) d q_Judge_mustBeOn [.ref r, ax_i (V2 522 (V 521 x1)), ax_i ((2 * (V 520 x1)) + 1)] V2 (fun V3 => (0 ≤ V 520 x1 ∧ V 520 x1 < 208) ∧ Φ (V3 536 (V 520 x1)) V3) Θ) Θ) ∧ (V 517 x1 = 22 → ax_I (az_W B (az_EJ B r)) d q_Judge_clockOfCall [.ref r, ax_i x1] V (fun r4 V4 => Φ r4 V4) Θ) ∧ (¬ V 517 x1 = 0 → ¬ V 517 x1 = 1 → ¬ V 517 x1 = 2 → ¬ V 517 x1 = 3 → ¬ V 517 x1 = 20 → ¬ V 517 x1 = 21 → ¬ V 517 x1 = 22 → ax_I (az_W B (az_EJ B r)) d q_Judge_commonClock [.ref r, ax_i (V 521 x1)] V (fun r5 V5 => Φ r5 V5) Θ))) : ax_I (az_W B (az_EJ B r)) (d + 1) q_Judge_clockOf [.ref r, ax_i x1] V Φ Θ := by
  refine ax_T.of (M := m_Judge_clockOf) rfl (Nat.le_of_ble_eq_true rfl) ?_
  refine ax_mv 0 0 [some (.ref r), some (ax_i x1), none, none] [] rfl ?_
  refine ax_mv 1 1 [some (.ref r), some (ax_i x1), none, none] [.ref r] rfl ?_
  refine ax_gR (v := .ref (B + 16)) (pc' := 4) ⟨_, rfl⟩ fl_3_25 (az_e 0 rfl) rfl rfl ?_
  refine ax_gR (v := .ref (B + 20)) (pc' := 7) ⟨_, rfl⟩ fl_3_152 (az_b 16 rfl) rfl rfl ?_
  refine ax_mv 1 8 [some (.ref r), some (ax_i x1), none, none] [ax_i x1, .ref (B + 20)] rfl ?_
  obtain ⟨o1, h⟩ := h
  refine ax_ild (n := 700) (pc' := 9) ⟨_, rfl⟩ (az_b 20 rfl) (by decide) o1 rfl ?_
  refine ax_sti (i := 0) (k := 2) (n := 1) (pc' := 10) (L' := [some (.ref r), some (ax_i x1), some (ax_i (V 520 x1)), none]) ⟨_, rfl⟩ rfl rfl rfl (Nat.le_of_ble_eq_true rfl) rfl rfl ?_
  refine ax_mv 1 11 [some (.ref r), some (ax_i x1), some (ax_i (V 520 x1)), none] [.ref r] rfl ?_
  refine ax_gR (v := .ref (B + 16)) (pc' := 14) ⟨_, rfl⟩ fl_3_25 (az_e 0 rfl) rfl rfl ?_
  refine ax_gR (v := .ref (B + 21)) (pc' := 17) ⟨_, rfl⟩ fl_3_215 (az_b 16 rfl) rfl rfl ?_
  refine ax_mv 1 18 [some (.ref r), some (ax_i x1), some (ax_i (V 520 x1)), none] [ax_i x1, .ref (B + 21)] rfl ?_
  obtain ⟨o2, h⟩ := h
  refine ax_ild (n := 700) (pc' := 19) ⟨_, rfl⟩ (az_b 21 rfl) (by decide) o2 rfl ?_
  refine ax_sti (i := 0) (k := 3) (n := 1) (pc' := 20) (L' := [some (.ref r), some (ax_i x1), some (ax_i (V 520 x1)), some (ax_i (V 521 x1))]) ⟨_, rfl⟩ rfl rfl rfl (Nat.le_of_ble_eq_true rfl) rfl rfl ?_
  refine ax_mv 1 21 [some (.ref r), some (ax_i x1), some (ax_i (V 520 x1)), some (ax_i (V 521 x1))] [.ref r] rfl ?_
  refine ax_gR (v := .ref (B + 16)) (pc' := 24) ⟨_, rfl⟩ fl_3_25 (az_e 0 rfl) rfl rfl ?_
  refine ax_gR (v := .ref (B + 17)) (pc' := 27) ⟨_, rfl⟩ fl_3_158 (az_b 16 rfl) rfl rfl ?_
  refine ax_mv 1 28 [some (.ref r), some (ax_i x1), some (ax_i (V 520 x1)), some (ax_i (V 521 x1))] [ax_i x1, .ref (B + 17)] rfl ?_
  obtain ⟨o3, h⟩ := h
  refine ax_ild (n := 700) (pc' := 29) ⟨_, rfl⟩ (az_b 17 rfl) (by decide) o3 rfl ?_
  have t0 : (V 517 x1 = 0) → ax_R (az_W B (az_EJ B r)) ax_t d m_Judge_clockOf 136 [some (.ref r), some (ax_i x1), some (ax_i (V 520 x1)), some (ax_i (V 521 x1))] [] V (ax_Ir Φ) Θ := fun hk => by
    have h := h.1 hk
    refine ax_bip (pc' := 138) ⟨_, rfl⟩ (by decide) rfl ?_
    exact ax_iret ⟨_, rfl⟩ rfl rfl (by decide) hg h
  have t1 : (V 517 x1 = 1) → ax_R (az_W B (az_EJ B r)) ax_t d m_Judge_clockOf 139 [some (.ref r), some (ax_i x1), some (ax_i (V 520 x1)), some (ax_i (V 521 x1))] [] V (ax_Ir Φ) Θ := fun hk => by
    have h := h.2.1 hk
    refine ax_bip (pc' := 141) ⟨_, rfl⟩ (by decide) rfl ?_
    exact ax_iret ⟨_, rfl⟩ rfl rfl (by decide) hg h
  have t2 : (V 517 x1 = 2) → ax_R (az_W B (az_EJ B r)) ax_t d m_Judge_clockOf 142 [some (.ref r), some (ax_i x1), some (ax_i (V 520 x1)), some (ax_i (V 521 x1))] [] V (ax_Ir Φ) Θ := fun hk => by
    have h := h.2.2.1 hk
    refine ax_mv 1 143 [some (.ref r), some (ax_i x1), some (ax_i (V 520 x1)), some (ax_i (V 521 x1))] [.ref r] rfl ?_
    refine ax_gR (v := .ref (B + 32)) (pc' := 146) ⟨_, rfl⟩ fl_3_30 (az_e 0 rfl) rfl rfl ?_
    refine ax_gR (v := .ref (B + 36)) (pc' := 149) ⟨_, rfl⟩ fl_3_193 (az_b 32 rfl) rfl rfl ?_
    refine ax_mv 1 150 [some (.ref r), some (ax_i x1), some (ax_i (V 520 x1)), some (ax_i (V 521 x1))] [ax_i (V 520 x1), .ref (B + 36)] rfl ?_
    obtain ⟨o4, h⟩ := h
    refine ax_ild (n := 208) (pc' := 151) ⟨_, rfl⟩ (az_b 36 rfl) (by decide) o4 rfl ?_
    exact ax_iret ⟨_, rfl⟩ rfl rfl (hg _ _) hg h
  have t3 : (V 517 x1 = 3) → ax_R (az_W B (az_EJ B r)) ax_t d m_Judge_clockOf 152 [some (.ref r), some (ax_i x1), some (ax_i (V 520 x1)), some (ax_i (V 521 x1))] [] V (ax_Ir Φ) Θ := fun hk => by
    have h := h.2.2.2.1 hk
    refine ax_mv 1 153 [some (.ref r), some (ax_i x1), some (ax_i (V 520 x1)), some (ax_i (V 521 x1))] [.ref r] rfl ?_
    refine ax_gR (v := .ref (B + 32)) (pc' := 156) ⟨_, rfl⟩ fl_3_30 (az_e 0 rfl) rfl rfl ?_
    refine ax_gR (v := .ref (B + 36)) (pc' := 159) ⟨_, rfl⟩ fl_3_193 (az_b 32 rfl) rfl rfl ?_
    refine ax_mv 1 160 [some (.ref r), some (ax_i x1), some (ax_i (V 520 x1)), some (ax_i (V 521 x1))] [ax_i (V 520 x1), .ref (B + 36)] rfl ?_
    obtain ⟨o5, h⟩ := h
    refine ax_ild (n := 208) (pc' := 161) ⟨_, rfl⟩ (az_b 36 rfl) (by decide) o5 rfl ?_
    exact ax_iret ⟨_, rfl⟩ rfl rfl (hg _ _) hg h
  have t4 : (V 517 x1 = 20) → ax_R (az_W B (az_EJ B r)) ax_t d m_Judge_clockOf 162 [some (.ref r), some (ax_i x1), some (ax_i (V 520 x1)), some (ax_i (V 521 x1))] [] V (ax_Ir Φ) Θ := fun hk => by
    have h := h.2.2.2.2.1 hk
    refine ax_mv 3 165 [some (.ref r), some (ax_i x1), some (ax_i (V 520 x1)), some (ax_i (V 521 x1))] [.ref r, ax_i (V 521 x1), .ref r] rfl ?_
    refine ax_gR (v := .ref (B + 32)) (pc' := 168) ⟨_, rfl⟩ fl_3_30 (az_e 0 rfl) rfl rfl ?_
    refine ax_gR (v := .ref (B + 36)) (pc' := 171) ⟨_, rfl⟩ fl_3_193 (az_b 32 rfl) rfl rfl ?_
    refine ax_mv 2 173 [some (.ref r), some (ax_i x1), some (ax_i (V 520 x1)), some (ax_i (V 521 x1))] [ax_i 1, ax_i (V 520 x1), .ref (B + 36), ax_i (V 521 x1), .ref r] rfl ?_
    refine ax_rshr (pc' := 174) ⟨_, rfl⟩ rfl ?_
    obtain ⟨o6, h⟩ := h
    refine ax_ild (n := 208) (pc' := 175) ⟨_, rfl⟩ (az_b 36 rfl) (by decide) o6 rfl ?_
    refine ax_callN (pc' := 178) ⟨_, rfl⟩ ml_3_252 (rest := []) rfl (fun ss hs => ⟨_, _, (az_e 0 rfl) ss hs⟩) (Nat.le_of_ble_eq_true rfl) rfl rfl h (fun V1 hg1 h => ?_)
    refine ax_mv 1 179 [some (.ref r), some (ax_i x1), some (ax_i (V 520 x1)), some (ax_i (V 521 x1))] [ax_i (V 520 x1)] rfl ?_
    exact ax_iret ⟨_, rfl⟩ rfl rfl (hg _ _) hg1 h
  have t5 : (V 517 x1 = 21) → ax_R (az_W B (az_EJ B r)) ax_t d m_Judge_clockOf 180 [some (.ref r), some (ax_i x1), some (ax_i (V 520 x1)), some (ax_i (V 521 x1))] [] V (ax_Ir Φ) Θ := fun hk => by
    have h := h.2.2.2.2.2.1 hk
    refine ax_mv 4 184 [some (.ref r), some (ax_i x1), some (ax_i (V 520 x1)), some (ax_i (V 521 x1))] [ax_i (V 520 x1), ax_i 2, ax_i (V 521 x1), .ref r] rfl ?_
    refine ax_mul (pc' := 185) ⟨_, rfl⟩ rfl ?_
    refine ax_callN (pc' := 188) ⟨_, rfl⟩ ml_3_252 (rest := []) rfl (fun ss hs => ⟨_, _, (az_e 0 rfl) ss hs⟩) (Nat.le_of_ble_eq_true rfl) rfl rfl h (fun V2 hg2 h => ?_)
    refine ax_mv 2 190 [some (.ref r), some (ax_i x1), some (ax_i (V 520 x1)), some (ax_i (V 521 x1))] [.ref r, .ref r] rfl ?_
    refine ax_gR (v := .ref (B + 16)) (pc' := 193) ⟨_, rfl⟩ fl_3_25 (az_e 0 rfl) rfl rfl ?_
    refine ax_gR (v := .ref (B + 22)) (pc' := 196) ⟨_, rfl⟩ fl_3_224 (az_b 16 rfl) rfl rfl ?_
    refine ax_mv 1 197 [some (.ref r), some (ax_i x1), some (ax_i (V 520 x1)), some (ax_i (V 521 x1))] [ax_i (V 521 x1), .ref (B + 22), .ref r] rfl ?_
    obtain ⟨o7, h⟩ := h
    refine ax_ild (n := 700) (pc' := 198) ⟨_, rfl⟩ (az_b 22 rfl) (by decide) o7 rfl ?_
    refine ax_mv 2 200 [some (.ref r), some (ax_i x1), some (ax_i (V 520 x1)), some (ax_i (V 521 x1))] [ax_i (V 520 x1), ax_i 2, ax_i (V2 522 (V 521 x1)), .ref r] rfl ?_
    refine ax_mul (pc' := 201) ⟨_, rfl⟩ rfl ?_
    refine ax_mv 1 202 [some (.ref r), some (ax_i x1), some (ax_i (V 520 x1)), some (ax_i (V 521 x1))] [ax_i 1, ax_i (2 * (V 520 x1)), ax_i (V2 522 (V 521 x1)), .ref r] rfl ?_
    refine ax_add (pc' := 203) ⟨_, rfl⟩ rfl ?_
    refine ax_callN (pc' := 206) ⟨_, rfl⟩ ml_3_252 (rest := []) rfl (fun ss hs => ⟨_, _, (az_e 0 rfl) ss hs⟩) (Nat.le_of_ble_eq_true rfl) rfl rfl h (fun V3 hg3 h => ?_)
    refine ax_mv 1 207 [some (.ref r), some (ax_i x1), some (ax_i (V 520 x1)), some (ax_i (V 521 x1))] [.ref r] rfl ?_
    refine ax_gR (v := .ref (B + 32)) (pc' := 210) ⟨_, rfl⟩ fl_3_30 (az_e 0 rfl) rfl rfl ?_
    refine ax_gR (v := .ref (B + 36)) (pc' := 213) ⟨_, rfl⟩ fl_3_193 (az_b 32 rfl) rfl rfl ?_
    refine ax_mv 1 214 [some (.ref r), some (ax_i x1), some (ax_i (V 520 x1)), some (ax_i (V 521 x1))] [ax_i (V 520 x1), .ref (B + 36)] rfl ?_
    obtain ⟨o8, h⟩ := h
    refine ax_ild (n := 208) (pc' := 215) ⟨_, rfl⟩ (az_b 36 rfl) (by decide) o8 rfl ?_
    exact ax_iret ⟨_, rfl⟩ rfl rfl (hg3 _ _) hg3 h
  have t6 : (V 517 x1 = 22) → ax_R (az_W B (az_EJ B r)) ax_t d m_Judge_clockOf 216 [some (.ref r), some (ax_i x1), some (ax_i (V 520 x1)), some (ax_i (V 521 x1))] [] V (ax_Ir Φ) Θ := fun hk => by
    have h := h.2.2.2.2.2.2.1 hk
    refine ax_mv 2 218 [some (.ref r), some (ax_i x1), some (ax_i (V 520 x1)), some (ax_i (V 521 x1))] [ax_i x1, .ref r] rfl ?_
    refine ax_callI (pc' := 221) ⟨_, rfl⟩ ml_3_255 (rest := []) rfl (fun ss hs => ⟨_, _, (az_e 0 rfl) ss hs⟩) (Nat.le_of_ble_eq_true rfl) rfl rfl h (fun r4 V4 hg4 hr4 h => ?_)
    exact ax_iret ⟨_, rfl⟩ rfl rfl hr4 hg4 h
  have tD : ¬ V 517 x1 = 0 → ¬ V 517 x1 = 1 → ¬ V 517 x1 = 2 → ¬ V 517 x1 = 3 → ¬ V 517 x1 = 20 → ¬ V 517 x1 = 21 → ¬ V 517 x1 = 22 → ax_R (az_W B (az_EJ B r)) ax_t d m_Judge_clockOf 222 [some (.ref r), some (ax_i x1), some (ax_i (V 520 x1)), some (ax_i (V 521 x1))] [] V (ax_Ir Φ) Θ := fun n0 n1 n2 n3 n4 n5 n6 => by
    have h := h.2.2.2.2.2.2.2 n0 n1 n2 n3 n4 n5 n6
    refine ax_mv 2 224 [some (.ref r), some (ax_i x1), some (ax_i (V 520 x1)), some (ax_i (V 521 x1))] [ax_i (V 521 x1), .ref r] rfl ?_
    refine ax_callI (pc' := 227) ⟨_, rfl⟩ ml_3_258 (rest := []) rfl (fun ss hs => ⟨_, _, (az_e 0 rfl) ss hs⟩) (Nat.le_of_ble_eq_true rfl) rfl rfl h (fun r5 V5 hg5 hr5 h => ?_)
    exact ax_iret ⟨_, rfl⟩ rfl rfl hr5 hg5 h
  by_cases e0 : V 517 x1 = 0
  · exact ax_tsC (off := 107) (p1 := 136) ⟨_, rfl⟩ (hg _ _) (by omega) (by omega) (by rw [e0]; rfl) (by decide) (t0 (e0))
  by_cases e1 : V 517 x1 = 1
  · exact ax_tsC (off := 110) (p1 := 139) ⟨_, rfl⟩ (hg _ _) (by omega) (by omega) (by rw [e1]; rfl) (by decide) (t1 (e1))
  by_cases e2 : V 517 x1 = 2
  · exact ax_tsC (off := 113) (p1 := 142) ⟨_, rfl⟩ (hg _ _) (by omega) (by omega) (by rw [e2]; rfl) (by decide) (t2 (e2))
  by_cases e3 : V 517 x1 = 3
  · exact ax_tsC (off := 123) (p1 := 152) ⟨_, rfl⟩ (hg _ _) (by omega) (by omega) (by rw [e3]; rfl) (by decide) (t3 (e3))
  by_cases e4 : V 517 x1 = 4
  · exact ax_tsC (off := 193) (p1 := 222) ⟨_, rfl⟩ (hg _ _) (by omega) (by omega) (by rw [e4]; rfl) (by decide) (tD (by omega) (by omega) (by omega) (by omega) (by omega) (by omega) (by omega))
  by_cases e5 : V 517 x1 = 5
  · exact ax_tsC (off := 193) (p1 := 222) ⟨_, rfl⟩ (hg _ _) (by omega) (by omega) (by rw [e5]; rfl) (by decide) (tD (by omega) (by omega) (by omega) (by omega) (by omega) (by omega) (by omega))
  by_cases e6 : V 517 x1 = 6
  · exact ax_tsC (off := 193) (p1 := 222) ⟨_, rfl⟩ (hg _ _) (by omega) (by omega) (by rw [e6]; rfl) (by decide) (tD (by omega) (by omega) (by omega) (by omega) (by omega) (by omega) (by omega))
  by_cases e7 : V 517 x1 = 7
  · exact ax_tsC (off := 193) (p1 := 222) ⟨_, rfl⟩ (hg _ _) (by omega) (by omega) (by rw [e7]; rfl) (by decide) (tD (by omega) (by omega) (by omega) (by omega) (by omega) (by omega) (by omega))
  by_cases e8 : V 517 x1 = 8
  · exact ax_tsC (off := 193) (p1 := 222) ⟨_, rfl⟩ (hg _ _) (by omega) (by omega) (by rw [e8]; rfl) (by decide) (tD (by omega) (by omega) (by omega) (by omega) (by omega) (by omega) (by omega))
  by_cases e9 : V 517 x1 = 9
  · exact ax_tsC (off := 193) (p1 := 222) ⟨_, rfl⟩ (hg _ _) (by omega) (by omega) (by rw [e9]; rfl) (by decide) (tD (by omega) (by omega) (by omega) (by omega) (by omega) (by omega) (by omega))
  by_cases e10 : V 517 x1 = 10
  · exact ax_tsC (off := 193) (p1 := 222) ⟨_, rfl⟩ (hg _ _) (by omega) (by omega) (by rw [e10]; rfl) (by decide) (tD (by omega) (by omega) (by omega) (by omega) (by omega) (by omega) (by omega))
  by_cases e11 : V 517 x1 = 11
  · exact ax_tsC (off := 193) (p1 := 222) ⟨_, rfl⟩ (hg _ _) (by omega) (by omega) (by rw [e11]; rfl) (by decide) (tD (by omega) (by omega) (by omega) (by omega) (by omega) (by omega) (by omega))
  by_cases e12 : V 517 x1 = 12
  · exact ax_tsC (off := 193) (p1 := 222) ⟨_, rfl⟩ (hg _ _) (by omega) (by omega) (by rw [e12]; rfl) (by decide) (tD (by omega) (by omega) (by omega) (by omega) (by omega) (by omega) (by omega))
  by_cases e13 : V 517 x1 = 13
  · exact ax_tsC (off := 193) (p1 := 222) ⟨_, rfl⟩ (hg _ _) (by omega) (by omega) (by rw [e13]; rfl) (by decide) (tD (by omega) (by omega) (by omega) (by omega) (by omega) (by omega) (by omega))
  by_cases e14 : V 517 x1 = 14
  · exact ax_tsC (off := 193) (p1 := 222) ⟨_, rfl⟩ (hg _ _) (by omega) (by omega) (by rw [e14]; rfl) (by decide) (tD (by omega) (by omega) (by omega) (by omega) (by omega) (by omega) (by omega))
  by_cases e15 : V 517 x1 = 15
  · exact ax_tsC (off := 193) (p1 := 222) ⟨_, rfl⟩ (hg _ _) (by omega) (by omega) (by rw [e15]; rfl) (by decide) (tD (by omega) (by omega) (by omega) (by omega) (by omega) (by omega) (by omega))
  by_cases e16 : V 517 x1 = 16
  · exact ax_tsC (off := 193) (p1 := 222) ⟨_, rfl⟩ (hg _ _) (by omega) (by omega) (by rw [e16]; rfl) (by decide) (tD (by omega) (by omega) (by omega) (by omega) (by omega) (by omega) (by omega))
  by_cases e17 : V 517 x1 = 17
  · exact ax_tsC (off := 193) (p1 := 222) ⟨_, rfl⟩ (hg _ _) (by omega) (by omega) (by rw [e17]; rfl) (by decide) (tD (by omega) (by omega) (by omega) (by omega) (by omega) (by omega) (by omega))
  by_cases e18 : V 517 x1 = 18
  · exact ax_tsC (off := 193) (p1 := 222) ⟨_, rfl⟩ (hg _ _) (by omega) (by omega) (by rw [e18]; rfl) (by decide) (tD (by omega) (by omega) (by omega) (by omega) (by omega) (by omega) (by omega))
  by_cases e19 : V 517 x1 = 19
  · exact ax_tsC (off := 193) (p1 := 222) ⟨_, rfl⟩ (hg _ _) (by omega) (by omega) (by rw [e19]; rfl) (by decide) (tD (by omega) (by omega) (by omega) (by omega) (by omega) (by omega) (by omega))
  by_cases e20 : V 517 x1 = 20
  · exact ax_tsC (off := 133) (p1 := 162) ⟨_, rfl⟩ (hg _ _) (by omega) (by omega) (by rw [e20]; rfl) (by decide) (t4 (e20))
  by_cases e21 : V 517 x1 = 21
  · exact ax_tsC (off := 151) (p1 := 180) ⟨_, rfl⟩ (hg _ _) (by omega) (by omega) (by rw [e21]; rfl) (by decide) (t5 (e21))
  by_cases e22 : V 517 x1 = 22
  · exact ax_tsC (off := 187) (p1 := 216) ⟨_, rfl⟩ (hg _ _) (by omega) (by omega) (by rw [e22]; rfl) (by decide) (t6 (e22))
  exact ax_tsD (p1 := 222) ⟨_, rfl⟩ (hg _ _) (by omega) (by decide) (tD e0 e1 e2 e3 e20 e21 e22)
theorem r_Judge_mustBeOn {B : Nat} {r : Nat} {d : Nat} {V : ax_V} {Φ : ax_V → Prop} {Θ : ax_V → Prop} {x1 : Int} {x2 : Int} (hg : ax_g V) (hx1 : ax_rg x1) (hx2 : ax_rg x2) (h : (0 ≤ x1 ∧ x1 < 700) ∧ ((V 529 x1 = -2 → (0 ≤ x1 ∧ x1 < 700) ∧ ax_N (az_W B (az_EJ B r)) d q_Judge_blameIf [.ref r, ax_i 0, ax_i (V 518 x1)] V (fun V1 => Φ V1) Θ) ∧ (¬ V 529 x1 = -2 → (0 ≤ x1 ∧ x1 < 700) ∧ ((V 529 x1 = x2 → (0 ≤ x1 ∧ x1 < 700) ∧ ax_N (az_W B (az_EJ B r)) d q_Judge_blameIf [.ref r, ax_i 0, ax_i (V 518 x1)] V (fun V2 => Φ V2) Θ) ∧ (¬ V 529 x1 = x2 → (0 ≤ x1 ∧ x1 < 700) ∧ ax_N (az_W B (az_EJ B r)) d q_Judge_blameIf [.ref r, ax_i 1, ax_i (V 518 x1)] V (fun V3 => Φ V3) Θ))))) : ax_N (az_W B (az_EJ B r)) (d + 1) q_Judge_mustBeOn [.ref r, ax_i x1, ax_i x2] V Φ Θ := by
  refine ax_T.of (M := m_Judge_mustBeOn) rfl (Nat.le_of_ble_eq_true rfl) ?_
  refine ax_mv 0 0 [some (.ref r), some (ax_i x1), some (ax_i x2)] [] rfl ?_
  refine ax_mv 2 2 [some (.ref r), some (ax_i x1), some (ax_i x2)] [.ref r, .ref r] rfl ?_
  refine ax_gR (v := .ref (B + 16)) (pc' := 5) ⟨_, rfl⟩ fl_3_25 (az_e 0 rfl) rfl rfl ?_
  refine ax_gR (v := .ref (B + 29)) (pc' := 8) ⟨_, rfl⟩ fl_3_248 (az_b 16 rfl) rfl rfl ?_
  refine ax_mv 1 9 [some (.ref r), some (ax_i x1), some (ax_i x2)] [ax_i x1, .ref (B + 29), .ref r] rfl ?_
  obtain ⟨o1, h⟩ := h
  refine ax_ild (n := 700) (pc' := 10) ⟨_, rfl⟩ (az_b 29 rfl) (by decide) o1 rfl ?_
  refine ax_bip (pc' := 12) ⟨_, rfl⟩ (by decide) rfl ?_
  refine ax_if2 (p1 := 32) (p2 := 15) ⟨_, rfl⟩ (by decide) rfl (hg _ _) (by decide) (fun hc => ?_) (fun hc => ?_)
  · have h := h.1 hc
    refine ax_mv 2 34 [some (.ref r), some (ax_i x1), some (ax_i x2)] [.ref r, ax_i 0, .ref r] rfl ?_
    refine ax_gR (v := .ref (B + 16)) (pc' := 37) ⟨_, rfl⟩ fl_3_25 (az_e 0 rfl) rfl rfl ?_
    refine ax_gR (v := .ref (B + 18)) (pc' := 40) ⟨_, rfl⟩ fl_3_227 (az_b 16 rfl) rfl rfl ?_
    refine ax_mv 1 41 [some (.ref r), some (ax_i x1), some (ax_i x2)] [ax_i x1, .ref (B + 18), ax_i 0, .ref r] rfl ?_
    obtain ⟨o2, h⟩ := h
    refine ax_ild (n := 700) (pc' := 42) ⟨_, rfl⟩ (az_b 18 rfl) (by decide) o2 rfl ?_
    refine ax_callN (pc' := 45) ⟨_, rfl⟩ ml_3_123 (rest := []) rfl (fun ss hs => ⟨_, _, (az_e 0 rfl) ss hs⟩) (Nat.le_of_ble_eq_true rfl) rfl rfl h (fun V1 hg1 h => ?_)
    exact ax_nret ⟨_, rfl⟩ rfl hg1 h
  · have h := h.2 hc
    refine ax_mv 1 16 [some (.ref r), some (ax_i x1), some (ax_i x2)] [.ref r, .ref r] rfl ?_
    refine ax_gR (v := .ref (B + 16)) (pc' := 19) ⟨_, rfl⟩ fl_3_25 (az_e 0 rfl) rfl rfl ?_
    refine ax_gR (v := .ref (B + 29)) (pc' := 22) ⟨_, rfl⟩ fl_3_248 (az_b 16 rfl) rfl rfl ?_
    refine ax_mv 1 23 [some (.ref r), some (ax_i x1), some (ax_i x2)] [ax_i x1, .ref (B + 29), .ref r] rfl ?_
    obtain ⟨o3, h⟩ := h
    refine ax_ild (n := 700) (pc' := 24) ⟨_, rfl⟩ (az_b 29 rfl) (by decide) o3 rfl ?_
    refine ax_mv 1 25 [some (.ref r), some (ax_i x1), some (ax_i x2)] [ax_i x2, ax_i (V 529 x1), .ref r] rfl ?_
    refine ax_if2 (p1 := 32) (p2 := 28) ⟨_, rfl⟩ (by decide) rfl (hg _ _) hx2 (fun hc => ?_) (fun hc => ?_)
    · have h := h.1 hc
      refine ax_mv 2 34 [some (.ref r), some (ax_i x1), some (ax_i x2)] [.ref r, ax_i 0, .ref r] rfl ?_
      refine ax_gR (v := .ref (B + 16)) (pc' := 37) ⟨_, rfl⟩ fl_3_25 (az_e 0 rfl) rfl rfl ?_
      refine ax_gR (v := .ref (B + 18)) (pc' := 40) ⟨_, rfl⟩ fl_3_227 (az_b 16 rfl) rfl rfl ?_
      refine ax_mv 1 41 [some (.ref r), some (ax_i x1), some (ax_i x2)] [ax_i x1, .ref (B + 18), ax_i 0, .ref r] rfl ?_
      obtain ⟨o4, h⟩ := h
      refine ax_ild (n := 700) (pc' := 42) ⟨_, rfl⟩ (az_b 18 rfl) (by decide) o4 rfl ?_
      refine ax_callN (pc' := 45) ⟨_, rfl⟩ ml_3_123 (rest := []) rfl (fun ss hs => ⟨_, _, (az_e 0 rfl) ss hs⟩) (Nat.le_of_ble_eq_true rfl) rfl rfl h (fun V2 hg2 h => ?_)
      exact ax_nret ⟨_, rfl⟩ rfl hg2 h
    · have h := h.2 hc
      refine ax_mv 3 34 [some (.ref r), some (ax_i x1), some (ax_i x2)] [.ref r, ax_i 1, .ref r] rfl ?_
      refine ax_gR (v := .ref (B + 16)) (pc' := 37) ⟨_, rfl⟩ fl_3_25 (az_e 0 rfl) rfl rfl ?_
      refine ax_gR (v := .ref (B + 18)) (pc' := 40) ⟨_, rfl⟩ fl_3_227 (az_b 16 rfl) rfl rfl ?_
      refine ax_mv 1 41 [some (.ref r), some (ax_i x1), some (ax_i x2)] [ax_i x1, .ref (B + 18), ax_i 1, .ref r] rfl ?_
      obtain ⟨o5, h⟩ := h
      refine ax_ild (n := 700) (pc' := 42) ⟨_, rfl⟩ (az_b 18 rfl) (by decide) o5 rfl ?_
      refine ax_callN (pc' := 45) ⟨_, rfl⟩ ml_3_123 (rest := []) rfl (fun ss hs => ⟨_, _, (az_e 0 rfl) ss hs⟩) (Nat.le_of_ble_eq_true rfl) rfl rfl h (fun V3 hg3 h => ?_)
      exact ax_nret ⟨_, rfl⟩ rfl hg3 h
theorem r_Judge_clockOfCall {B : Nat} {r : Nat} {d : Nat} {V : ax_V} {Φ : Int → ax_V → Prop} {Θ : ax_V → Prop} {x1 : Int} (hg : ax_g V) (hx1 : ax_rg x1) (h : (0 ≤ x1 ∧ x1 < 700) ∧ ax_I (az_W B (az_EJ B r)) d q_Judge_commonClock [.ref r, ax_i (V 521 x1)] V (fun r1 V1 => (0 ≤ x1 ∧ x1 < 700) ∧ ((V1 523 x1 < 0 → ((r1 = -2 → Φ (-1) V1) ∧ (¬ r1 = -2 → Φ r1 V1))) ∧ (0 ≤ V1 523 x1 → ((r1 = -2 → (0 ≤ V1 523 x1 ∧ V1 523 x1 < 208) ∧ Φ (V1 536 (V1 523 x1)) V1) ∧ (¬ r1 = -2 → (0 ≤ V1 523 x1 ∧ V1 523 x1 < 208) ∧ ((V1 536 (V1 523 x1) = r1 → (0 ≤ x1 ∧ x1 < 700) ∧ ax_N (az_W B (az_EJ B r)) d q_Judge_blameIf [.ref r, ax_i 0, ax_i (V1 524 x1)] V1 (fun V2 => ((r1 = -2 → Φ (-1) V2) ∧ (¬ r1 = -2 → Φ r1 V2))) Θ) ∧ (¬ V1 536 (V1 523 x1) = r1 → (0 ≤ x1 ∧ x1 < 700) ∧ ax_N (az_W B (az_EJ B r)) d q_Judge_blameIf [.ref r, ax_i 1, ax_i (V1 524 x1)] V1 (fun V3 => ((r1 = -2 → Φ (-1) V3) ∧ (¬ r1 = -2 → Φ r1 V3))) Θ))))))) Θ) : ax_I (az_W B (az_EJ B r)) (d + 1) q_Judge_clockOfCall [.ref r, ax_i x1] V Φ Θ := by
  refine ax_T.of (M := m_Judge_clockOfCall) rfl (Nat.le_of_ble_eq_true rfl) ?_
  refine ax_mv 0 0 [some (.ref r), some (ax_i x1), none, none] [] rfl ?_
  refine ax_mv 2 2 [some (.ref r), some (ax_i x1), none, none] [.ref r, .ref r] rfl ?_
  refine ax_gR (v := .ref (B + 16)) (pc' := 5) ⟨_, rfl⟩ fl_3_25 (az_e 0 rfl) rfl rfl ?_
  refine ax_gR (v := .ref (B + 21)) (pc' := 8) ⟨_, rfl⟩ fl_3_215 (az_b 16 rfl) rfl rfl ?_
  refine ax_mv 1 9 [some (.ref r), some (ax_i x1), none, none] [ax_i x1, .ref (B + 21), .ref r] rfl ?_
  obtain ⟨o1, h⟩ := h
  refine ax_ild (n := 700) (pc' := 10) ⟨_, rfl⟩ (az_b 21 rfl) (by decide) o1 rfl ?_
  refine ax_callI (pc' := 13) ⟨_, rfl⟩ ml_3_258 (rest := []) rfl (fun ss hs => ⟨_, _, (az_e 0 rfl) ss hs⟩) (Nat.le_of_ble_eq_true rfl) rfl rfl h (fun r1 V1 hg1 hr1 h => ?_)
  refine ax_sti (i := 0) (k := 2) (n := 1) (pc' := 14) (L' := [some (.ref r), some (ax_i x1), some (ax_i r1), none]) ⟨_, rfl⟩ rfl rfl rfl (Nat.le_of_ble_eq_true rfl) rfl rfl ?_
  refine ax_mv 1 15 [some (.ref r), some (ax_i x1), some (ax_i r1), none] [.ref r] rfl ?_
  refine ax_gR (v := .ref (B + 16)) (pc' := 18) ⟨_, rfl⟩ fl_3_25 (az_e 0 rfl) rfl rfl ?_
  refine ax_gR (v := .ref (B + 23)) (pc' := 21) ⟨_, rfl⟩ fl_3_169 (az_b 16 rfl) rfl rfl ?_
  refine ax_mv 1 22 [some (.ref r), some (ax_i x1), some (ax_i r1), none] [ax_i x1, .ref (B + 23)] rfl ?_
  obtain ⟨o2, h⟩ := h
  refine ax_ild (n := 700) (pc' := 23) ⟨_, rfl⟩ (az_b 23 rfl) (by decide) o2 rfl ?_
  refine ax_sti (i := 0) (k := 3) (n := 1) (pc' := 24) (L' := [some (.ref r), some (ax_i x1), some (ax_i r1), some (ax_i (V1 523 x1))]) ⟨_, rfl⟩ rfl rfl rfl (Nat.le_of_ble_eq_true rfl) rfl rfl ?_
  refine ax_mv 1 25 [some (.ref r), some (ax_i x1), some (ax_i r1), some (ax_i (V1 523 x1))] [ax_i (V1 523 x1)] rfl ?_
  refine ax_if (p1 := 75) (p2 := 28) ⟨_, rfl⟩ (by decide) rfl (hg1 _ _) (fun hc => ?_) (fun hc => ?_)
  · have h := h.1 hc
    refine ax_mv 1 76 [some (.ref r), some (ax_i x1), some (ax_i r1), some (ax_i (V1 523 x1))] [ax_i r1] rfl ?_
    refine ax_bip (pc' := 78) ⟨_, rfl⟩ (by decide) rfl ?_
    refine ax_if2 (p1 := 85) (p2 := 81) ⟨_, rfl⟩ (by decide) rfl hr1 (by decide) (fun hc => ?_) (fun hc => ?_)
    · have h := h.2 hc
      refine ax_mv 1 86 [some (.ref r), some (ax_i x1), some (ax_i r1), some (ax_i (V1 523 x1))] [ax_i r1] rfl ?_
      exact ax_iret ⟨_, rfl⟩ rfl rfl hr1 hg1 h
    · have h := h.1 (Classical.not_not.mp hc)
      refine ax_mv 2 86 [some (.ref r), some (ax_i x1), some (ax_i r1), some (ax_i (V1 523 x1))] [ax_i (-1)] rfl ?_
      exact ax_iret ⟨_, rfl⟩ rfl rfl (by decide) hg1 h
  · have h := h.2 (Int.not_lt.mp hc)
    refine ax_mv 1 29 [some (.ref r), some (ax_i x1), some (ax_i r1), some (ax_i (V1 523 x1))] [ax_i r1] rfl ?_
    refine ax_bip (pc' := 31) ⟨_, rfl⟩ (by decide) rfl ?_
    refine ax_if2 (p1 := 44) (p2 := 34) ⟨_, rfl⟩ (by decide) rfl hr1 (by decide) (fun hc => ?_) (fun hc => ?_)
    · have h := h.2 hc
      refine ax_mv 2 46 [some (.ref r), some (ax_i x1), some (ax_i r1), some (ax_i (V1 523 x1))] [.ref r, .ref r] rfl ?_
      refine ax_gR (v := .ref (B + 32)) (pc' := 49) ⟨_, rfl⟩ fl_3_30 (az_e 0 rfl) rfl rfl ?_
      refine ax_gR (v := .ref (B + 36)) (pc' := 52) ⟨_, rfl⟩ fl_3_193 (az_b 32 rfl) rfl rfl ?_
      refine ax_mv 1 53 [some (.ref r), some (ax_i x1), some (ax_i r1), some (ax_i (V1 523 x1))] [ax_i (V1 523 x1), .ref (B + 36), .ref r] rfl ?_
      obtain ⟨o3, h⟩ := h
      refine ax_ild (n := 208) (pc' := 54) ⟨_, rfl⟩ (az_b 36 rfl) (by decide) o3 rfl ?_
      refine ax_mv 1 55 [some (.ref r), some (ax_i x1), some (ax_i r1), some (ax_i (V1 523 x1))] [ax_i r1, ax_i (V1 536 (V1 523 x1)), .ref r] rfl ?_
      refine ax_if2 (p1 := 62) (p2 := 58) ⟨_, rfl⟩ (by decide) rfl (hg1 _ _) hr1 (fun hc => ?_) (fun hc => ?_)
      · have h := h.1 hc
        refine ax_mv 2 64 [some (.ref r), some (ax_i x1), some (ax_i r1), some (ax_i (V1 523 x1))] [.ref r, ax_i 0, .ref r] rfl ?_
        refine ax_gR (v := .ref (B + 16)) (pc' := 67) ⟨_, rfl⟩ fl_3_25 (az_e 0 rfl) rfl rfl ?_
        refine ax_gR (v := .ref (B + 24)) (pc' := 70) ⟨_, rfl⟩ fl_3_172 (az_b 16 rfl) rfl rfl ?_
        refine ax_mv 1 71 [some (.ref r), some (ax_i x1), some (ax_i r1), some (ax_i (V1 523 x1))] [ax_i x1, .ref (B + 24), ax_i 0, .ref r] rfl ?_
        obtain ⟨o4, h⟩ := h
        refine ax_ild (n := 700) (pc' := 72) ⟨_, rfl⟩ (az_b 24 rfl) (by decide) o4 rfl ?_
        refine ax_callN (pc' := 75) ⟨_, rfl⟩ ml_3_123 (rest := []) rfl (fun ss hs => ⟨_, _, (az_e 0 rfl) ss hs⟩) (Nat.le_of_ble_eq_true rfl) rfl rfl h (fun V2 hg2 h => ?_)
        refine ax_mv 1 76 [some (.ref r), some (ax_i x1), some (ax_i r1), some (ax_i (V1 523 x1))] [ax_i r1] rfl ?_
        refine ax_bip (pc' := 78) ⟨_, rfl⟩ (by decide) rfl ?_
        refine ax_if2 (p1 := 85) (p2 := 81) ⟨_, rfl⟩ (by decide) rfl hr1 (by decide) (fun hc => ?_) (fun hc => ?_)
        · have h := h.2 hc
          refine ax_mv 1 86 [some (.ref r), some (ax_i x1), some (ax_i r1), some (ax_i (V1 523 x1))] [ax_i r1] rfl ?_
          exact ax_iret ⟨_, rfl⟩ rfl rfl hr1 hg2 h
        · have h := h.1 (Classical.not_not.mp hc)
          refine ax_mv 2 86 [some (.ref r), some (ax_i x1), some (ax_i r1), some (ax_i (V1 523 x1))] [ax_i (-1)] rfl ?_
          exact ax_iret ⟨_, rfl⟩ rfl rfl (by decide) hg2 h
      · have h := h.2 hc
        refine ax_mv 3 64 [some (.ref r), some (ax_i x1), some (ax_i r1), some (ax_i (V1 523 x1))] [.ref r, ax_i 1, .ref r] rfl ?_
        refine ax_gR (v := .ref (B + 16)) (pc' := 67) ⟨_, rfl⟩ fl_3_25 (az_e 0 rfl) rfl rfl ?_
        refine ax_gR (v := .ref (B + 24)) (pc' := 70) ⟨_, rfl⟩ fl_3_172 (az_b 16 rfl) rfl rfl ?_
        refine ax_mv 1 71 [some (.ref r), some (ax_i x1), some (ax_i r1), some (ax_i (V1 523 x1))] [ax_i x1, .ref (B + 24), ax_i 1, .ref r] rfl ?_
        obtain ⟨o5, h⟩ := h
        refine ax_ild (n := 700) (pc' := 72) ⟨_, rfl⟩ (az_b 24 rfl) (by decide) o5 rfl ?_
        refine ax_callN (pc' := 75) ⟨_, rfl⟩ ml_3_123 (rest := []) rfl (fun ss hs => ⟨_, _, (az_e 0 rfl) ss hs⟩) (Nat.le_of_ble_eq_true rfl) rfl rfl h (fun V3 hg3 h => ?_)
        refine ax_mv 1 76 [some (.ref r), some (ax_i x1), some (ax_i r1), some (ax_i (V1 523 x1))] [ax_i r1] rfl ?_
        refine ax_bip (pc' := 78) ⟨_, rfl⟩ (by decide) rfl ?_
        refine ax_if2 (p1 := 85) (p2 := 81) ⟨_, rfl⟩ (by decide) rfl hr1 (by decide) (fun hc => ?_) (fun hc => ?_)
        · have h := h.2 hc
          refine ax_mv 1 86 [some (.ref r), some (ax_i x1), some (ax_i r1), some (ax_i (V1 523 x1))] [ax_i r1] rfl ?_
          exact ax_iret ⟨_, rfl⟩ rfl rfl hr1 hg3 h
        · have h := h.1 (Classical.not_not.mp hc)
          refine ax_mv 2 86 [some (.ref r), some (ax_i x1), some (ax_i r1), some (ax_i (V1 523 x1))] [ax_i (-1)] rfl ?_
          exact ax_iret ⟨_, rfl⟩ rfl rfl (by decide) hg3 h
    · have h := h.1 (Classical.not_not.mp hc)
      refine ax_mv 1 35 [some (.ref r), some (ax_i x1), some (ax_i r1), some (ax_i (V1 523 x1))] [.ref r] rfl ?_
      refine ax_gR (v := .ref (B + 32)) (pc' := 38) ⟨_, rfl⟩ fl_3_30 (az_e 0 rfl) rfl rfl ?_
      refine ax_gR (v := .ref (B + 36)) (pc' := 41) ⟨_, rfl⟩ fl_3_193 (az_b 32 rfl) rfl rfl ?_
      refine ax_mv 1 42 [some (.ref r), some (ax_i x1), some (ax_i r1), some (ax_i (V1 523 x1))] [ax_i (V1 523 x1), .ref (B + 36)] rfl ?_
      obtain ⟨o6, h⟩ := h
      refine ax_ild (n := 208) (pc' := 43) ⟨_, rfl⟩ (az_b 36 rfl) (by decide) o6 rfl ?_
      exact ax_iret ⟨_, rfl⟩ rfl rfl (hg1 _ _) hg1 h
abbrev k_Judge_commonClock_8 (B : Nat) (r : Nat) (d : Nat) (y1 : Option Value) (x2 : Int) (x3 : Int) (x4 : Int) (V : ax_V) (Φ : Int → ax_V → Prop) (Θ : ax_V → Prop) : Prop := ax_R (az_W B (az_EJ B r)) ax_t d m_Judge_commonClock 8 [some (.ref r), y1, some (ax_i x2), some (ax_i x3), some (ax_i x4)] [] V (ax_Ir Φ) Θ
theorem r_Judge_commonClock_8 {B : Nat} {r : Nat} {d : Nat} {V : ax_V} {Φ : Int → ax_V → Prop} {Θ : ax_V → Prop} {y1 : Option Value} {x2 : Int} {x3 : Int} {x4 : Int} (hg : ax_g V) (hy1 : ax_y y1) (hx2 : ax_rg x2) (hx3 : ax_rg x3) (hx4 : ax_rg x4) (h : ((700 ≤ x4 → Φ x2 V) ∧ (x4 < 700 → ((x3 < 0 → Φ x2 V) ∧ (0 ≤ x3 → ((x2 = -2 → (0 ≤ x3 ∧ x3 < 700) ∧ (0 ≤ x3 ∧ x3 < 700) ∧ k_Judge_commonClock_8 B r d y1 (V 529 x3) (V 522 x3) (x4 + 1) V Φ Θ) ∧ (¬ x2 = -2 → ax_N (az_W B (az_EJ B r)) d q_Judge_mustBeOn [.ref r, ax_i x3, ax_i x2] V (fun V1 => (0 ≤ x3 ∧ x3 < 700) ∧ k_Judge_commonClock_8 B r d y1 x2 (V1 522 x3) (x4 + 1) V1 Φ Θ) Θ))))))) : k_Judge_commonClock_8 B r d y1 x2 x3 x4 V Φ Θ := by
  refine ax_mv 1 10 [some (.ref r), y1, some (ax_i x2), some (ax_i x3), some (ax_i x4)] [ax_i x4] rfl ?_
  refine ax_sip (pc' := 13) ⟨_, rfl⟩ (by decide) rfl ?_
  refine ax_if2 (p1 := 61) (p2 := 16) ⟨_, rfl⟩ (by decide) rfl hx4 (by decide) (fun hc => ?_) (fun hc => ?_)
  · have h := h.1 hc
    refine ax_mv 1 62 [some (.ref r), y1, some (ax_i x2), some (ax_i x3), some (ax_i x4)] [ax_i x2] rfl ?_
    exact ax_iret ⟨_, rfl⟩ rfl rfl hx2 hg h
  · have h := h.2 (Int.not_le.mp hc)
    refine ax_mv 1 17 [some (.ref r), y1, some (ax_i x2), some (ax_i x3), some (ax_i x4)] [ax_i x3] rfl ?_
    refine ax_if (p1 := 61) (p2 := 20) ⟨_, rfl⟩ (by decide) rfl hx3 (fun hc => ?_) (fun hc => ?_)
    · have h := h.1 hc
      refine ax_mv 1 62 [some (.ref r), y1, some (ax_i x2), some (ax_i x3), some (ax_i x4)] [ax_i x2] rfl ?_
      exact ax_iret ⟨_, rfl⟩ rfl rfl hx2 hg h
    · have h := h.2 (Int.not_lt.mp hc)
      refine ax_mv 1 21 [some (.ref r), y1, some (ax_i x2), some (ax_i x3), some (ax_i x4)] [ax_i x2] rfl ?_
      refine ax_bip (pc' := 23) ⟨_, rfl⟩ (by decide) rfl ?_
      refine ax_if2 (p1 := 39) (p2 := 26) ⟨_, rfl⟩ (by decide) rfl hx2 (by decide) (fun hc => ?_) (fun hc => ?_)
      · have h := h.2 hc
        refine ax_mv 3 42 [some (.ref r), y1, some (ax_i x2), some (ax_i x3), some (ax_i x4)] [ax_i x2, ax_i x3, .ref r] rfl ?_
        refine ax_callN (pc' := 45) ⟨_, rfl⟩ ml_3_252 (rest := []) rfl (fun ss hs => ⟨_, _, (az_e 0 rfl) ss hs⟩) (Nat.le_of_ble_eq_true rfl) rfl rfl h (fun V1 hg1 h => ?_)
        refine ax_mv 1 46 [some (.ref r), y1, some (ax_i x2), some (ax_i x3), some (ax_i x4)] [.ref r] rfl ?_
        refine ax_gR (v := .ref (B + 16)) (pc' := 49) ⟨_, rfl⟩ fl_3_25 (az_e 0 rfl) rfl rfl ?_
        refine ax_gR (v := .ref (B + 22)) (pc' := 52) ⟨_, rfl⟩ fl_3_224 (az_b 16 rfl) rfl rfl ?_
        refine ax_mv 1 53 [some (.ref r), y1, some (ax_i x2), some (ax_i x3), some (ax_i x4)] [ax_i x3, .ref (B + 22)] rfl ?_
        obtain ⟨o1, h⟩ := h
        refine ax_ild (n := 700) (pc' := 54) ⟨_, rfl⟩ (az_b 22 rfl) (by decide) o1 rfl ?_
        refine ax_sti (i := 0) (k := 3) (n := 1) (pc' := 55) (L' := [some (.ref r), y1, some (ax_i x2), some (ax_i (V1 522 x3)), some (ax_i x4)]) ⟨_, rfl⟩ rfl rfl rfl (Nat.le_of_ble_eq_true rfl) rfl rfl ?_
        refine ax_inc (x := x4) (pc' := 58) (L' := [some (.ref r), y1, some (ax_i x2), some (ax_i (V1 522 x3)), some (ax_i (x4 + 1))]) ⟨_, rfl⟩ rfl rfl rfl rfl ?_
        refine ax_mv 1 8 [some (.ref r), y1, some (ax_i x2), some (ax_i (V1 522 x3)), some (ax_i (x4 + 1))] [] rfl ?_
        exact h
      · have h := h.1 (Classical.not_not.mp hc)
        refine ax_mv 1 27 [some (.ref r), y1, some (ax_i x2), some (ax_i x3), some (ax_i x4)] [.ref r] rfl ?_
        refine ax_gR (v := .ref (B + 16)) (pc' := 30) ⟨_, rfl⟩ fl_3_25 (az_e 0 rfl) rfl rfl ?_
        refine ax_gR (v := .ref (B + 29)) (pc' := 33) ⟨_, rfl⟩ fl_3_248 (az_b 16 rfl) rfl rfl ?_
        refine ax_mv 1 34 [some (.ref r), y1, some (ax_i x2), some (ax_i x3), some (ax_i x4)] [ax_i x3, .ref (B + 29)] rfl ?_
        obtain ⟨o2, h⟩ := h
        refine ax_ild (n := 700) (pc' := 35) ⟨_, rfl⟩ (az_b 29 rfl) (by decide) o2 rfl ?_
        refine ax_sti (i := 0) (k := 2) (n := 1) (pc' := 36) (L' := [some (.ref r), y1, some (ax_i (V 529 x3)), some (ax_i x3), some (ax_i x4)]) ⟨_, rfl⟩ rfl rfl (ax_kill_y (k := 1) rfl hy1) (Nat.le_of_ble_eq_true rfl) rfl rfl ?_
        refine ax_mv 2 46 [some (.ref r), y1, some (ax_i (V 529 x3)), some (ax_i x3), some (ax_i x4)] [.ref r] rfl ?_
        refine ax_gR (v := .ref (B + 16)) (pc' := 49) ⟨_, rfl⟩ fl_3_25 (az_e 0 rfl) rfl rfl ?_
        refine ax_gR (v := .ref (B + 22)) (pc' := 52) ⟨_, rfl⟩ fl_3_224 (az_b 16 rfl) rfl rfl ?_
        refine ax_mv 1 53 [some (.ref r), y1, some (ax_i (V 529 x3)), some (ax_i x3), some (ax_i x4)] [ax_i x3, .ref (B + 22)] rfl ?_
        obtain ⟨o3, h⟩ := h
        refine ax_ild (n := 700) (pc' := 54) ⟨_, rfl⟩ (az_b 22 rfl) (by decide) o3 rfl ?_
        refine ax_sti (i := 0) (k := 3) (n := 1) (pc' := 55) (L' := [some (.ref r), y1, some (ax_i (V 529 x3)), some (ax_i (V 522 x3)), some (ax_i x4)]) ⟨_, rfl⟩ rfl rfl rfl (Nat.le_of_ble_eq_true rfl) rfl rfl ?_
        refine ax_inc (x := x4) (pc' := 58) (L' := [some (.ref r), y1, some (ax_i (V 529 x3)), some (ax_i (V 522 x3)), some (ax_i (x4 + 1))]) ⟨_, rfl⟩ rfl rfl rfl rfl ?_
        refine ax_mv 1 8 [some (.ref r), y1, some (ax_i (V 529 x3)), some (ax_i (V 522 x3)), some (ax_i (x4 + 1))] [] rfl ?_
        exact h
theorem r_Judge_commonClock {B : Nat} {r : Nat} {d : Nat} {V : ax_V} {Φ : Int → ax_V → Prop} {Θ : ax_V → Prop} {x1 : Int} (hg : ax_g V) (hx1 : ax_rg x1) (h : k_Judge_commonClock_8 B r d (some (ax_i x1)) (-2) x1 0 V Φ Θ) : ax_I (az_W B (az_EJ B r)) (d + 1) q_Judge_commonClock [.ref r, ax_i x1] V Φ Θ := by
  refine ax_T.of (M := m_Judge_commonClock) rfl (Nat.le_of_ble_eq_true rfl) ?_
  refine ax_mv 0 0 [some (.ref r), some (ax_i x1), none, none, none] [] rfl ?_
  refine ax_bip (pc' := 2) ⟨_, rfl⟩ (by decide) rfl ?_
  refine ax_sti (i := 0) (k := 2) (n := 1) (pc' := 3) (L' := [some (.ref r), some (ax_i x1), some (ax_i (-2)), none, none]) ⟨_, rfl⟩ rfl rfl rfl (Nat.le_of_ble_eq_true rfl) rfl rfl ?_
  refine ax_mv 1 4 [some (.ref r), some (ax_i x1), some (ax_i (-2)), none, none] [ax_i x1] rfl ?_
  refine ax_sti (i := 0) (k := 3) (n := 1) (pc' := 5) (L' := [some (.ref r), some (ax_i x1), some (ax_i (-2)), some (ax_i x1), none]) ⟨_, rfl⟩ rfl rfl rfl (Nat.le_of_ble_eq_true rfl) rfl rfl ?_
  refine ax_mv 1 6 [some (.ref r), some (ax_i x1), some (ax_i (-2)), some (ax_i x1), none] [ax_i 0] rfl ?_
  refine ax_sti (i := 0) (k := 4) (n := 2) (pc' := 8) (L' := [some (.ref r), some (ax_i x1), some (ax_i (-2)), some (ax_i x1), some (ax_i 0)]) ⟨_, rfl⟩ rfl rfl rfl (Nat.le_of_ble_eq_true rfl) rfl rfl ?_
  exact h
abbrev k_Judge_judgeBases_10 (B : Nat) (r : Nat) (d : Nat) (x1 : Int) (x2 : Int) (y3 : Option Value) (y4 : Option Value) (y5 : Option Value) (V : ax_V) (Φ : ax_V → Prop) (Θ : ax_V → Prop) : Prop := ax_R (az_W B (az_EJ B r)) ax_t d m_Judge_judgeBases 10 [some (.ref r), some (ax_i x1), some (ax_i x2), y3, y4, y5] [] V (ax_Nr Φ) Θ
abbrev k_Judge_judgeBases_97 (B : Nat) (r : Nat) (d : Nat) (x1 : Int) (x2 : Int) (y3 : Option Value) (y4 : Option Value) (y5 : Option Value) (s0 : Int) (V : ax_V) (Φ : ax_V → Prop) (Θ : ax_V → Prop) : Prop := ax_R (az_W B (az_EJ B r)) ax_t d m_Judge_judgeBases 97 [some (.ref r), some (ax_i x1), some (ax_i x2), y3, y4, y5] [ax_i s0, .ref r] V (ax_Nr Φ) Θ
abbrev k_Judge_judgeBases_173 (B : Nat) (r : Nat) (d : Nat) (x1 : Int) (x2 : Int) (y3 : Option Value) (y4 : Option Value) (y5 : Option Value) (V : ax_V) (Φ : ax_V → Prop) (Θ : ax_V → Prop) : Prop := ax_R (az_W B (az_EJ B r)) ax_t d m_Judge_judgeBases 173 [some (.ref r), some (ax_i x1), some (ax_i x2), y3, y4, y5] [] V (ax_Nr Φ) Θ
abbrev k_Judge_judgeBases_198 (B : Nat) (r : Nat) (d : Nat) (x1 : Int) (x2 : Int) (x3 : Int) (y4 : Option Value) (y5 : Option Value) (V : ax_V) (Φ : ax_V → Prop) (Θ : ax_V → Prop) : Prop := ax_R (az_W B (az_EJ B r)) ax_t d m_Judge_judgeBases 198 [some (.ref r), some (ax_i x1), some (ax_i x2), some (ax_i x3), y4, y5] [] V (ax_Nr Φ) Θ
set_option maxRecDepth 20000 in
theorem r_Judge_judgeBases_10 {B : Nat} {r : Nat} {d : Nat} {V : ax_V} {Φ : ax_V → Prop} {Θ : ax_V → Prop} {x1 : Int} {x2 : Int} {y3 : Option Value} {y4 : Option Value} {y5 : Option Value} (hg : ax_g V) (hx1 : ax_rg x1) (hx2 : ax_rg x2) (hy3 : ax_y y3) (hy4 : ax_y y4) (hy5 : ax_y y5) (h : (0 ≤ x1 + 1 ∧ x1 + 1 < 9) ∧ ((V 508 (x1 + 1) ≤ x2 → (0 ≤ x1 ∧ x1 < 9) ∧ k_Judge_judgeBases_173 B r d x1 (V 509 x1) y3 y4 y5 V Φ Θ) ∧ (x2 < V 508 (x1 + 1) → (0 ≤ x2 ∧ x2 < 700) ∧ ((V 525 x2 = -1 → k_Judge_judgeBases_10 B r d x1 (x2 + 1) y3 y4 y5 V Φ Θ) ∧ (¬ V 525 x2 = -1 → (0 ≤ x2 ∧ x2 < 700) ∧ ((V 517 x2 = 2 → (0 ≤ x2 ∧ x2 < 700) ∧ (0 ≤ V 520 x2 ∧ V 520 x2 < 208) ∧ ((V 536 (V 520 x2) = -1 → k_Judge_judgeBases_97 B r d x1 x2 (some (ax_i (V 517 x2))) (some (ax_i 1)) y5 0 V Φ Θ) ∧ (¬ V 536 (V 520 x2) = -1 → k_Judge_judgeBases_97 B r d x1 x2 (some (ax_i (V 517 x2))) (some (ax_i 1)) y5 1 V Φ Θ))) ∧ (¬ V 517 x2 = 2 → ((V 517 x2 = 3 → (0 ≤ x2 ∧ x2 < 700) ∧ (0 ≤ V 520 x2 ∧ V 520 x2 < 208) ∧ ((V 536 (V 520 x2) = -1 → k_Judge_judgeBases_97 B r d x1 x2 (some (ax_i (V 517 x2))) (some (ax_i 1)) y5 0 V Φ Θ) ∧ (¬ V 536 (V 520 x2) = -1 → k_Judge_judgeBases_97 B r d x1 x2 (some (ax_i (V 517 x2))) (some (ax_i 1)) y5 1 V Φ Θ))) ∧ (¬ V 517 x2 = 3 → k_Judge_judgeBases_97 B r d x1 x2 (some (ax_i (V 517 x2))) (some (ax_i 0)) y5 0 V Φ Θ))))))))) : k_Judge_judgeBases_10 B r d x1 x2 y3 y4 y5 V Φ Θ := by
  refine ax_mv 2 12 [some (.ref r), some (ax_i x1), some (ax_i x2), y3, y4, y5] [.ref r, ax_i x2] rfl ?_
  refine ax_gR (v := .ref B) (pc' := 15) ⟨_, rfl⟩ fl_3_15 (az_e 0 rfl) rfl rfl ?_
  refine ax_gR (v := .ref (B + 8)) (pc' := 18) ⟨_, rfl⟩ fl_3_149 (az_b 0 rfl) rfl rfl ?_
  refine ax_mv 2 20 [some (.ref r), some (ax_i x1), some (ax_i x2), y3, y4, y5] [ax_i 1, ax_i x1, .ref (B + 8), ax_i x2] rfl ?_
  refine ax_add (pc' := 21) ⟨_, rfl⟩ rfl ?_
  obtain ⟨o1, h⟩ := h
  refine ax_ild (n := 9) (pc' := 22) ⟨_, rfl⟩ (az_b 8 rfl) (by decide) o1 rfl ?_
  refine ax_if2 (p1 := 163) (p2 := 25) ⟨_, rfl⟩ (by decide) rfl hx2 (hg _ _) (fun hc => ?_) (fun hc => ?_)
  · have h := h.1 hc
    refine ax_mv 1 164 [some (.ref r), some (ax_i x1), some (ax_i x2), y3, y4, y5] [.ref r] rfl ?_
    refine ax_gR (v := .ref B) (pc' := 167) ⟨_, rfl⟩ fl_3_15 (az_e 0 rfl) rfl rfl ?_
    refine ax_gR (v := .ref (B + 9)) (pc' := 170) ⟨_, rfl⟩ fl_3_94 (az_b 0 rfl) rfl rfl ?_
    refine ax_mv 1 171 [some (.ref r), some (ax_i x1), some (ax_i x2), y3, y4, y5] [ax_i x1, .ref (B + 9)] rfl ?_
    obtain ⟨o2, h⟩ := h
    refine ax_ild (n := 9) (pc' := 172) ⟨_, rfl⟩ (az_b 9 rfl) (by decide) o2 rfl ?_
    refine ax_sti (i := 0) (k := 2) (n := 1) (pc' := 173) (L' := [some (.ref r), some (ax_i x1), some (ax_i (V 509 x1)), y3, y4, y5]) ⟨_, rfl⟩ rfl rfl rfl (Nat.le_of_ble_eq_true rfl) rfl rfl ?_
    exact h
  · have h := h.2 (Int.not_le.mp hc)
    refine ax_mv 1 26 [some (.ref r), some (ax_i x1), some (ax_i x2), y3, y4, y5] [.ref r] rfl ?_
    refine ax_gR (v := .ref (B + 16)) (pc' := 29) ⟨_, rfl⟩ fl_3_25 (az_e 0 rfl) rfl rfl ?_
    refine ax_gR (v := .ref (B + 25)) (pc' := 32) ⟨_, rfl⟩ fl_3_261 (az_b 16 rfl) rfl rfl ?_
    refine ax_mv 1 33 [some (.ref r), some (ax_i x1), some (ax_i x2), y3, y4, y5] [ax_i x2, .ref (B + 25)] rfl ?_
    obtain ⟨o3, h⟩ := h
    refine ax_ild (n := 700) (pc' := 34) ⟨_, rfl⟩ (az_b 25 rfl) (by decide) o3 rfl ?_
    refine ax_mv 1 35 [some (.ref r), some (ax_i x1), some (ax_i x2), y3, y4, y5] [ax_i (-1), ax_i (V 525 x2)] rfl ?_
    refine ax_if2 (p1 := 157) (p2 := 38) ⟨_, rfl⟩ (by decide) rfl (hg _ _) (by decide) (fun hc => ?_) (fun hc => ?_)
    · have h := h.1 hc
      refine ax_inc (x := x2) (pc' := 160) (L' := [some (.ref r), some (ax_i x1), some (ax_i (x2 + 1)), y3, y4, y5]) ⟨_, rfl⟩ rfl rfl rfl rfl ?_
      refine ax_mv 1 10 [some (.ref r), some (ax_i x1), some (ax_i (x2 + 1)), y3, y4, y5] [] rfl ?_
      exact h
    · have h := h.2 hc
      refine ax_mv 1 39 [some (.ref r), some (ax_i x1), some (ax_i x2), y3, y4, y5] [.ref r] rfl ?_
      refine ax_gR (v := .ref (B + 16)) (pc' := 42) ⟨_, rfl⟩ fl_3_25 (az_e 0 rfl) rfl rfl ?_
      refine ax_gR (v := .ref (B + 17)) (pc' := 45) ⟨_, rfl⟩ fl_3_158 (az_b 16 rfl) rfl rfl ?_
      refine ax_mv 1 46 [some (.ref r), some (ax_i x1), some (ax_i x2), y3, y4, y5] [ax_i x2, .ref (B + 17)] rfl ?_
      obtain ⟨o4, h⟩ := h
      refine ax_ild (n := 700) (pc' := 47) ⟨_, rfl⟩ (az_b 17 rfl) (by decide) o4 rfl ?_
      refine ax_sti (i := 0) (k := 3) (n := 1) (pc' := 48) (L' := [some (.ref r), some (ax_i x1), some (ax_i x2), some (ax_i (V 517 x2)), y4, y5]) ⟨_, rfl⟩ rfl rfl rfl (Nat.le_of_ble_eq_true rfl) rfl rfl ?_
      refine ax_mv 2 50 [some (.ref r), some (ax_i x1), some (ax_i x2), some (ax_i (V 517 x2)), y4, y5] [ax_i 2, ax_i (V 517 x2)] rfl ?_
      refine ax_if2 (p1 := 58) (p2 := 53) ⟨_, rfl⟩ (by decide) rfl (hg _ _) (by decide) (fun hc => ?_) (fun hc => ?_)
      · have h := h.1 hc
        refine ax_mv 2 63 [some (.ref r), some (ax_i x1), some (ax_i x2), some (ax_i (V 517 x2)), y4, y5] [ax_i 1] rfl ?_
        refine ax_sti (i := 0) (k := 4) (n := 2) (pc' := 65) (L' := [some (.ref r), some (ax_i x1), some (ax_i x2), some (ax_i (V 517 x2)), some (ax_i 1), y5]) ⟨_, rfl⟩ rfl rfl rfl (Nat.le_of_ble_eq_true rfl) rfl rfl ?_
        refine ax_mv 2 68 [some (.ref r), some (ax_i x1), some (ax_i x2), some (ax_i (V 517 x2)), some (ax_i 1), y5] [ax_i 1, .ref r] rfl ?_
        refine ax_if (p1 := 96) (p2 := 71) ⟨_, rfl⟩ (by decide) rfl (by decide) (fun hc => absurd hc (by unfold ax_k0; decide)) (fun _ => ?_)
        refine ax_mv 1 72 [some (.ref r), some (ax_i x1), some (ax_i x2), some (ax_i (V 517 x2)), some (ax_i 1), y5] [.ref r, .ref r] rfl ?_
        refine ax_gR (v := .ref (B + 32)) (pc' := 75) ⟨_, rfl⟩ fl_3_30 (az_e 0 rfl) rfl rfl ?_
        refine ax_gR (v := .ref (B + 36)) (pc' := 78) ⟨_, rfl⟩ fl_3_193 (az_b 32 rfl) rfl rfl ?_
        refine ax_mv 1 79 [some (.ref r), some (ax_i x1), some (ax_i x2), some (ax_i (V 517 x2)), some (ax_i 1), y5] [.ref r, .ref (B + 36), .ref r] rfl ?_
        refine ax_gR (v := .ref (B + 16)) (pc' := 82) ⟨_, rfl⟩ fl_3_25 (az_e 0 rfl) rfl rfl ?_
        refine ax_gR (v := .ref (B + 20)) (pc' := 85) ⟨_, rfl⟩ fl_3_152 (az_b 16 rfl) rfl rfl ?_
        refine ax_mv 1 86 [some (.ref r), some (ax_i x1), some (ax_i x2), some (ax_i (V 517 x2)), some (ax_i 1), y5] [ax_i x2, .ref (B + 20), .ref (B + 36), .ref r] rfl ?_
        obtain ⟨o5, h⟩ := h
        refine ax_ild (n := 700) (pc' := 87) ⟨_, rfl⟩ (az_b 20 rfl) (by decide) o5 rfl ?_
        obtain ⟨o6, h⟩ := h
        refine ax_ild (n := 208) (pc' := 88) ⟨_, rfl⟩ (az_b 36 rfl) (by decide) o6 rfl ?_
        refine ax_mv 1 89 [some (.ref r), some (ax_i x1), some (ax_i x2), some (ax_i (V 517 x2)), some (ax_i 1), y5] [ax_i (-1), ax_i (V 536 (V 520 x2)), .ref r] rfl ?_
        refine ax_if2 (p1 := 96) (p2 := 92) ⟨_, rfl⟩ (by decide) rfl (hg _ _) (by decide) (fun hc => ?_) (fun hc => ?_)
        · have h := h.1 hc
          refine ax_mv 1 97 [some (.ref r), some (ax_i x1), some (ax_i x2), some (ax_i (V 517 x2)), some (ax_i 1), y5] [ax_i 0, .ref r] rfl ?_
          exact h
        · have h := h.2 hc
          refine ax_mv 2 97 [some (.ref r), some (ax_i x1), some (ax_i x2), some (ax_i (V 517 x2)), some (ax_i 1), y5] [ax_i 1, .ref r] rfl ?_
          exact h
      · have h := h.2 hc
        refine ax_mv 2 55 [some (.ref r), some (ax_i x1), some (ax_i x2), some (ax_i (V 517 x2)), y4, y5] [ax_i 3, ax_i (V 517 x2)] rfl ?_
        refine ax_if2 (p1 := 62) (p2 := 58) ⟨_, rfl⟩ (by decide) rfl (hg _ _) (by decide) (fun hc => ?_) (fun hc => ?_)
        · have h := h.2 hc
          refine ax_mv 1 63 [some (.ref r), some (ax_i x1), some (ax_i x2), some (ax_i (V 517 x2)), y4, y5] [ax_i 0] rfl ?_
          refine ax_sti (i := 0) (k := 4) (n := 2) (pc' := 65) (L' := [some (.ref r), some (ax_i x1), some (ax_i x2), some (ax_i (V 517 x2)), some (ax_i 0), y5]) ⟨_, rfl⟩ rfl rfl rfl (Nat.le_of_ble_eq_true rfl) rfl rfl ?_
          refine ax_mv 2 68 [some (.ref r), some (ax_i x1), some (ax_i x2), some (ax_i (V 517 x2)), some (ax_i 0), y5] [ax_i 0, .ref r] rfl ?_
          refine ax_if (p1 := 96) (p2 := 71) ⟨_, rfl⟩ (by decide) rfl (by decide) (fun _ => ?_) (fun hc => absurd (by unfold ax_k0; decide) hc)
          refine ax_mv 1 97 [some (.ref r), some (ax_i x1), some (ax_i x2), some (ax_i (V 517 x2)), some (ax_i 0), y5] [ax_i 0, .ref r] rfl ?_
          exact h
        · have h := h.1 (Classical.not_not.mp hc)
          refine ax_mv 2 63 [some (.ref r), some (ax_i x1), some (ax_i x2), some (ax_i (V 517 x2)), y4, y5] [ax_i 1] rfl ?_
          refine ax_sti (i := 0) (k := 4) (n := 2) (pc' := 65) (L' := [some (.ref r), some (ax_i x1), some (ax_i x2), some (ax_i (V 517 x2)), some (ax_i 1), y5]) ⟨_, rfl⟩ rfl rfl rfl (Nat.le_of_ble_eq_true rfl) rfl rfl ?_
          refine ax_mv 2 68 [some (.ref r), some (ax_i x1), some (ax_i x2), some (ax_i (V 517 x2)), some (ax_i 1), y5] [ax_i 1, .ref r] rfl ?_
          refine ax_if (p1 := 96) (p2 := 71) ⟨_, rfl⟩ (by decide) rfl (by decide) (fun hc => absurd hc (by unfold ax_k0; decide)) (fun _ => ?_)
          refine ax_mv 1 72 [some (.ref r), some (ax_i x1), some (ax_i x2), some (ax_i (V 517 x2)), some (ax_i 1), y5] [.ref r, .ref r] rfl ?_
          refine ax_gR (v := .ref (B + 32)) (pc' := 75) ⟨_, rfl⟩ fl_3_30 (az_e 0 rfl) rfl rfl ?_
          refine ax_gR (v := .ref (B + 36)) (pc' := 78) ⟨_, rfl⟩ fl_3_193 (az_b 32 rfl) rfl rfl ?_
          refine ax_mv 1 79 [some (.ref r), some (ax_i x1), some (ax_i x2), some (ax_i (V 517 x2)), some (ax_i 1), y5] [.ref r, .ref (B + 36), .ref r] rfl ?_
          refine ax_gR (v := .ref (B + 16)) (pc' := 82) ⟨_, rfl⟩ fl_3_25 (az_e 0 rfl) rfl rfl ?_
          refine ax_gR (v := .ref (B + 20)) (pc' := 85) ⟨_, rfl⟩ fl_3_152 (az_b 16 rfl) rfl rfl ?_
          refine ax_mv 1 86 [some (.ref r), some (ax_i x1), some (ax_i x2), some (ax_i (V 517 x2)), some (ax_i 1), y5] [ax_i x2, .ref (B + 20), .ref (B + 36), .ref r] rfl ?_
          obtain ⟨o7, h⟩ := h
          refine ax_ild (n := 700) (pc' := 87) ⟨_, rfl⟩ (az_b 20 rfl) (by decide) o7 rfl ?_
          obtain ⟨o8, h⟩ := h
          refine ax_ild (n := 208) (pc' := 88) ⟨_, rfl⟩ (az_b 36 rfl) (by decide) o8 rfl ?_
          refine ax_mv 1 89 [some (.ref r), some (ax_i x1), some (ax_i x2), some (ax_i (V 517 x2)), some (ax_i 1), y5] [ax_i (-1), ax_i (V 536 (V 520 x2)), .ref r] rfl ?_
          refine ax_if2 (p1 := 96) (p2 := 92) ⟨_, rfl⟩ (by decide) rfl (hg _ _) (by decide) (fun hc => ?_) (fun hc => ?_)
          · have h := h.1 hc
            refine ax_mv 1 97 [some (.ref r), some (ax_i x1), some (ax_i x2), some (ax_i (V 517 x2)), some (ax_i 1), y5] [ax_i 0, .ref r] rfl ?_
            exact h
          · have h := h.2 hc
            refine ax_mv 2 97 [some (.ref r), some (ax_i x1), some (ax_i x2), some (ax_i (V 517 x2)), some (ax_i 1), y5] [ax_i 1, .ref r] rfl ?_
            exact h
set_option maxRecDepth 20000 in
theorem r_Judge_judgeBases_97 {B : Nat} {r : Nat} {d : Nat} {V : ax_V} {Φ : ax_V → Prop} {Θ : ax_V → Prop} {x1 : Int} {x2 : Int} {y3 : Option Value} {y4 : Option Value} {y5 : Option Value} {s0 : Int} (hg : ax_g V) (hx1 : ax_rg x1) (hx2 : ax_rg x2) (hy3 : ax_y y3) (hy4 : ax_y y4) (hy5 : ax_y y5) (hs0 : ax_rg s0) (h : (0 ≤ x2 ∧ x2 < 700) ∧ ax_N (az_W B (az_EJ B r)) d q_Judge_blameIf [.ref r, ax_i s0, ax_i (V 519 x2)] V (fun V1 => (0 ≤ x2 ∧ x2 < 700) ∧ ((V1 523 x2 < 0 → (0 ≤ x2 ∧ x2 < 700) ∧ ax_N (az_W B (az_EJ B r)) d q_Judge_blameIf [.ref r, ax_i 0, ax_i (V1 524 x2)] V1 (fun V2 => k_Judge_judgeBases_10 B r d x1 (x2 + 1) y3 y4 (some (ax_i (V1 523 x2))) V2 Φ Θ) Θ) ∧ (0 ≤ V1 523 x2 → (0 ≤ V1 523 x2 ∧ V1 523 x2 < 208) ∧ ((V1 536 (V1 523 x2) = -1 → (0 ≤ x2 ∧ x2 < 700) ∧ ax_N (az_W B (az_EJ B r)) d q_Judge_blameIf [.ref r, ax_i 0, ax_i (V1 524 x2)] V1 (fun V3 => k_Judge_judgeBases_10 B r d x1 (x2 + 1) y3 y4 (some (ax_i (V1 523 x2))) V3 Φ Θ) Θ) ∧ (¬ V1 536 (V1 523 x2) = -1 → (0 ≤ x2 ∧ x2 < 700) ∧ ax_N (az_W B (az_EJ B r)) d q_Judge_blameIf [.ref r, ax_i 1, ax_i (V1 524 x2)] V1 (fun V4 => k_Judge_judgeBases_10 B r d x1 (x2 + 1) y3 y4 (some (ax_i (V1 523 x2))) V4 Φ Θ) Θ))))) Θ) : k_Judge_judgeBases_97 B r d x1 x2 y3 y4 y5 s0 V Φ Θ := by
  refine ax_mv 1 98 [some (.ref r), some (ax_i x1), some (ax_i x2), y3, y4, y5] [.ref r, ax_i s0, .ref r] rfl ?_
  refine ax_gR (v := .ref (B + 16)) (pc' := 101) ⟨_, rfl⟩ fl_3_25 (az_e 0 rfl) rfl rfl ?_
  refine ax_gR (v := .ref (B + 19)) (pc' := 104) ⟨_, rfl⟩ fl_3_157 (az_b 16 rfl) rfl rfl ?_
  refine ax_mv 1 105 [some (.ref r), some (ax_i x1), some (ax_i x2), y3, y4, y5] [ax_i x2, .ref (B + 19), ax_i s0, .ref r] rfl ?_
  obtain ⟨o9, h⟩ := h
  refine ax_ild (n := 700) (pc' := 106) ⟨_, rfl⟩ (az_b 19 rfl) (by decide) o9 rfl ?_
  refine ax_callN (pc' := 109) ⟨_, rfl⟩ ml_3_123 (rest := []) rfl (fun ss hs => ⟨_, _, (az_e 0 rfl) ss hs⟩) (Nat.le_of_ble_eq_true rfl) rfl rfl h (fun V1 hg1 h => ?_)
  refine ax_mv 1 110 [some (.ref r), some (ax_i x1), some (ax_i x2), y3, y4, y5] [.ref r] rfl ?_
  refine ax_gR (v := .ref (B + 16)) (pc' := 113) ⟨_, rfl⟩ fl_3_25 (az_e 0 rfl) rfl rfl ?_
  refine ax_gR (v := .ref (B + 23)) (pc' := 116) ⟨_, rfl⟩ fl_3_169 (az_b 16 rfl) rfl rfl ?_
  refine ax_mv 1 117 [some (.ref r), some (ax_i x1), some (ax_i x2), y3, y4, y5] [ax_i x2, .ref (B + 23)] rfl ?_
  obtain ⟨o10, h⟩ := h
  refine ax_ild (n := 700) (pc' := 118) ⟨_, rfl⟩ (az_b 23 rfl) (by decide) o10 rfl ?_
  refine ax_sti (i := 0) (k := 5) (n := 2) (pc' := 120) (L' := [some (.ref r), some (ax_i x1), some (ax_i x2), y3, y4, some (ax_i (V1 523 x2))]) ⟨_, rfl⟩ rfl rfl (ax_kill_y (k := 4) rfl hy4) (Nat.le_of_ble_eq_true rfl) rfl rfl ?_
  refine ax_mv 2 123 [some (.ref r), some (ax_i x1), some (ax_i x2), y3, y4, some (ax_i (V1 523 x2))] [ax_i (V1 523 x2), .ref r] rfl ?_
  refine ax_if (p1 := 144) (p2 := 126) ⟨_, rfl⟩ (by decide) rfl (hg1 _ _) (fun hc => ?_) (fun hc => ?_)
  · have h := h.1 hc
    refine ax_mv 2 146 [some (.ref r), some (ax_i x1), some (ax_i x2), y3, y4, some (ax_i (V1 523 x2))] [.ref r, ax_i 0, .ref r] rfl ?_
    refine ax_gR (v := .ref (B + 16)) (pc' := 149) ⟨_, rfl⟩ fl_3_25 (az_e 0 rfl) rfl rfl ?_
    refine ax_gR (v := .ref (B + 24)) (pc' := 152) ⟨_, rfl⟩ fl_3_172 (az_b 16 rfl) rfl rfl ?_
    refine ax_mv 1 153 [some (.ref r), some (ax_i x1), some (ax_i x2), y3, y4, some (ax_i (V1 523 x2))] [ax_i x2, .ref (B + 24), ax_i 0, .ref r] rfl ?_
    obtain ⟨o11, h⟩ := h
    refine ax_ild (n := 700) (pc' := 154) ⟨_, rfl⟩ (az_b 24 rfl) (by decide) o11 rfl ?_
    refine ax_callN (pc' := 157) ⟨_, rfl⟩ ml_3_123 (rest := []) rfl (fun ss hs => ⟨_, _, (az_e 0 rfl) ss hs⟩) (Nat.le_of_ble_eq_true rfl) rfl rfl h (fun V2 hg2 h => ?_)
    refine ax_inc (x := x2) (pc' := 160) (L' := [some (.ref r), some (ax_i x1), some (ax_i (x2 + 1)), y3, y4, some (ax_i (V1 523 x2))]) ⟨_, rfl⟩ rfl rfl rfl rfl ?_
    refine ax_mv 1 10 [some (.ref r), some (ax_i x1), some (ax_i (x2 + 1)), y3, y4, some (ax_i (V1 523 x2))] [] rfl ?_
    exact h
  · have h := h.2 (Int.not_lt.mp hc)
    refine ax_mv 1 127 [some (.ref r), some (ax_i x1), some (ax_i x2), y3, y4, some (ax_i (V1 523 x2))] [.ref r, .ref r] rfl ?_
    refine ax_gR (v := .ref (B + 32)) (pc' := 130) ⟨_, rfl⟩ fl_3_30 (az_e 0 rfl) rfl rfl ?_
    refine ax_gR (v := .ref (B + 36)) (pc' := 133) ⟨_, rfl⟩ fl_3_193 (az_b 32 rfl) rfl rfl ?_
    refine ax_mv 1 135 [some (.ref r), some (ax_i x1), some (ax_i x2), y3, y4, some (ax_i (V1 523 x2))] [ax_i (V1 523 x2), .ref (B + 36), .ref r] rfl ?_
    obtain ⟨o12, h⟩ := h
    refine ax_ild (n := 208) (pc' := 136) ⟨_, rfl⟩ (az_b 36 rfl) (by decide) o12 rfl ?_
    refine ax_mv 1 137 [some (.ref r), some (ax_i x1), some (ax_i x2), y3, y4, some (ax_i (V1 523 x2))] [ax_i (-1), ax_i (V1 536 (V1 523 x2)), .ref r] rfl ?_
    refine ax_if2 (p1 := 144) (p2 := 140) ⟨_, rfl⟩ (by decide) rfl (hg1 _ _) (by decide) (fun hc => ?_) (fun hc => ?_)
    · have h := h.1 hc
      refine ax_mv 2 146 [some (.ref r), some (ax_i x1), some (ax_i x2), y3, y4, some (ax_i (V1 523 x2))] [.ref r, ax_i 0, .ref r] rfl ?_
      refine ax_gR (v := .ref (B + 16)) (pc' := 149) ⟨_, rfl⟩ fl_3_25 (az_e 0 rfl) rfl rfl ?_
      refine ax_gR (v := .ref (B + 24)) (pc' := 152) ⟨_, rfl⟩ fl_3_172 (az_b 16 rfl) rfl rfl ?_
      refine ax_mv 1 153 [some (.ref r), some (ax_i x1), some (ax_i x2), y3, y4, some (ax_i (V1 523 x2))] [ax_i x2, .ref (B + 24), ax_i 0, .ref r] rfl ?_
      obtain ⟨o13, h⟩ := h
      refine ax_ild (n := 700) (pc' := 154) ⟨_, rfl⟩ (az_b 24 rfl) (by decide) o13 rfl ?_
      refine ax_callN (pc' := 157) ⟨_, rfl⟩ ml_3_123 (rest := []) rfl (fun ss hs => ⟨_, _, (az_e 0 rfl) ss hs⟩) (Nat.le_of_ble_eq_true rfl) rfl rfl h (fun V3 hg3 h => ?_)
      refine ax_inc (x := x2) (pc' := 160) (L' := [some (.ref r), some (ax_i x1), some (ax_i (x2 + 1)), y3, y4, some (ax_i (V1 523 x2))]) ⟨_, rfl⟩ rfl rfl rfl rfl ?_
      refine ax_mv 1 10 [some (.ref r), some (ax_i x1), some (ax_i (x2 + 1)), y3, y4, some (ax_i (V1 523 x2))] [] rfl ?_
      exact h
    · have h := h.2 hc
      refine ax_mv 3 146 [some (.ref r), some (ax_i x1), some (ax_i x2), y3, y4, some (ax_i (V1 523 x2))] [.ref r, ax_i 1, .ref r] rfl ?_
      refine ax_gR (v := .ref (B + 16)) (pc' := 149) ⟨_, rfl⟩ fl_3_25 (az_e 0 rfl) rfl rfl ?_
      refine ax_gR (v := .ref (B + 24)) (pc' := 152) ⟨_, rfl⟩ fl_3_172 (az_b 16 rfl) rfl rfl ?_
      refine ax_mv 1 153 [some (.ref r), some (ax_i x1), some (ax_i x2), y3, y4, some (ax_i (V1 523 x2))] [ax_i x2, .ref (B + 24), ax_i 1, .ref r] rfl ?_
      obtain ⟨o14, h⟩ := h
      refine ax_ild (n := 700) (pc' := 154) ⟨_, rfl⟩ (az_b 24 rfl) (by decide) o14 rfl ?_
      refine ax_callN (pc' := 157) ⟨_, rfl⟩ ml_3_123 (rest := []) rfl (fun ss hs => ⟨_, _, (az_e 0 rfl) ss hs⟩) (Nat.le_of_ble_eq_true rfl) rfl rfl h (fun V4 hg4 h => ?_)
      refine ax_inc (x := x2) (pc' := 160) (L' := [some (.ref r), some (ax_i x1), some (ax_i (x2 + 1)), y3, y4, some (ax_i (V1 523 x2))]) ⟨_, rfl⟩ rfl rfl rfl rfl ?_
      refine ax_mv 1 10 [some (.ref r), some (ax_i x1), some (ax_i (x2 + 1)), y3, y4, some (ax_i (V1 523 x2))] [] rfl ?_
      exact h
set_option maxRecDepth 20000 in
theorem r_Judge_judgeBases_173 {B : Nat} {r : Nat} {d : Nat} {V : ax_V} {Φ : ax_V → Prop} {Θ : ax_V → Prop} {x1 : Int} {x2 : Int} {y3 : Option Value} {y4 : Option Value} {y5 : Option Value} (hg : ax_g V) (hx1 : ax_rg x1) (hx2 : ax_rg x2) (hy3 : ax_y y3) (hy4 : ax_y y4) (hy5 : ax_y y5) (h : (0 ≤ x1 + 1 ∧ x1 + 1 < 9) ∧ ((V 509 (x1 + 1) ≤ x2 → Φ V) ∧ (x2 < V 509 (x1 + 1) → (0 ≤ x2 ∧ x2 < 351) ∧ k_Judge_judgeBases_198 B r d x1 x2 (V 548 x2) y4 y5 V Φ Θ))) : k_Judge_judgeBases_173 B r d x1 x2 y3 y4 y5 V Φ Θ := by
  refine ax_mv 2 175 [some (.ref r), some (ax_i x1), some (ax_i x2), y3, y4, y5] [.ref r, ax_i x2] rfl ?_
  refine ax_gR (v := .ref B) (pc' := 178) ⟨_, rfl⟩ fl_3_15 (az_e 0 rfl) rfl rfl ?_
  refine ax_gR (v := .ref (B + 9)) (pc' := 181) ⟨_, rfl⟩ fl_3_94 (az_b 0 rfl) rfl rfl ?_
  refine ax_mv 2 183 [some (.ref r), some (ax_i x1), some (ax_i x2), y3, y4, y5] [ax_i 1, ax_i x1, .ref (B + 9), ax_i x2] rfl ?_
  refine ax_add (pc' := 184) ⟨_, rfl⟩ rfl ?_
  obtain ⟨o15, h⟩ := h
  refine ax_ild (n := 9) (pc' := 185) ⟨_, rfl⟩ (az_b 9 rfl) (by decide) o15 rfl ?_
  refine ax_if2 (p1 := 277) (p2 := 188) ⟨_, rfl⟩ (by decide) rfl hx2 (hg _ _) (fun hc => ?_) (fun hc => ?_)
  · have h := h.1 hc
    exact ax_nret ⟨_, rfl⟩ rfl hg h
  · have h := h.2 (Int.not_le.mp hc)
    refine ax_mv 1 189 [some (.ref r), some (ax_i x1), some (ax_i x2), y3, y4, y5] [.ref r] rfl ?_
    refine ax_gR (v := .ref (B + 47)) (pc' := 192) ⟨_, rfl⟩ fl_3_35 (az_e 0 rfl) rfl rfl ?_
    refine ax_gR (v := .ref (B + 48)) (pc' := 195) ⟨_, rfl⟩ fl_3_97 (az_b 47 rfl) rfl rfl ?_
    refine ax_mv 1 196 [some (.ref r), some (ax_i x1), some (ax_i x2), y3, y4, y5] [ax_i x2, .ref (B + 48)] rfl ?_
    obtain ⟨o16, h⟩ := h
    refine ax_ild (n := 351) (pc' := 197) ⟨_, rfl⟩ (az_b 48 rfl) (by decide) o16 rfl ?_
    refine ax_sti (i := 0) (k := 3) (n := 1) (pc' := 198) (L' := [some (.ref r), some (ax_i x1), some (ax_i x2), some (ax_i (V 548 x2)), y4, y5]) ⟨_, rfl⟩ rfl rfl rfl (Nat.le_of_ble_eq_true rfl) rfl rfl ?_
    exact h
set_option maxRecDepth 20000 in
theorem r_Judge_judgeBases_198 {B : Nat} {r : Nat} {d : Nat} {V : ax_V} {Φ : ax_V → Prop} {Θ : ax_V → Prop} {x1 : Int} {x2 : Int} {x3 : Int} {y4 : Option Value} {y5 : Option Value} (hg : ax_g V) (hx1 : ax_rg x1) (hx2 : ax_rg x2) (hx3 : ax_rg x3) (hy4 : ax_y y4) (hy5 : ax_y y5) (h : (0 ≤ x2 + 1 ∧ x2 + 1 < 351) ∧ ((V 548 (x2 + 1) ≤ x3 → k_Judge_judgeBases_173 B r d x1 (x2 + 1) (some (ax_i x3)) y4 y5 V Φ Θ) ∧ (x3 < V 548 (x2 + 1) → (0 ≤ x2 ∧ x2 < 350) ∧ ((V 551 x2 = -1 → k_Judge_judgeBases_173 B r d x1 (x2 + 1) (some (ax_i x3)) y4 y5 V Φ Θ) ∧ (¬ V 551 x2 = -1 → (0 ≤ x3 ∧ x3 < 350) ∧ (0 ≤ V 554 x3 ∧ V 554 x3 < 208) ∧ ((V 536 (V 554 x3) = -1 → (0 ≤ x3 ∧ x3 < 350) ∧ ax_N (az_W B (az_EJ B r)) d q_Judge_blameIf [.ref r, ax_i 0, ax_i (V 555 x3)] V (fun V1 => k_Judge_judgeBases_198 B r d x1 x2 (x3 + 1) y4 y5 V1 Φ Θ) Θ) ∧ (¬ V 536 (V 554 x3) = -1 → (0 ≤ x3 ∧ x3 < 350) ∧ ax_N (az_W B (az_EJ B r)) d q_Judge_blameIf [.ref r, ax_i 1, ax_i (V 555 x3)] V (fun V2 => k_Judge_judgeBases_198 B r d x1 x2 (x3 + 1) y4 y5 V2 Φ Θ) Θ))))))) : k_Judge_judgeBases_198 B r d x1 x2 x3 y4 y5 V Φ Θ := by
  refine ax_mv 2 200 [some (.ref r), some (ax_i x1), some (ax_i x2), some (ax_i x3), y4, y5] [.ref r, ax_i x3] rfl ?_
  refine ax_gR (v := .ref (B + 47)) (pc' := 203) ⟨_, rfl⟩ fl_3_35 (az_e 0 rfl) rfl rfl ?_
  refine ax_gR (v := .ref (B + 48)) (pc' := 206) ⟨_, rfl⟩ fl_3_97 (az_b 47 rfl) rfl rfl ?_
  refine ax_mv 2 208 [some (.ref r), some (ax_i x1), some (ax_i x2), some (ax_i x3), y4, y5] [ax_i 1, ax_i x2, .ref (B + 48), ax_i x3] rfl ?_
  refine ax_add (pc' := 209) ⟨_, rfl⟩ rfl ?_
  obtain ⟨o17, h⟩ := h
  refine ax_ild (n := 351) (pc' := 210) ⟨_, rfl⟩ (az_b 48 rfl) (by decide) o17 rfl ?_
  refine ax_if2 (p1 := 271) (p2 := 213) ⟨_, rfl⟩ (by decide) rfl hx3 (hg _ _) (fun hc => ?_) (fun hc => ?_)
  · have h := h.1 hc
    refine ax_inc (x := x2) (pc' := 274) (L' := [some (.ref r), some (ax_i x1), some (ax_i (x2 + 1)), some (ax_i x3), y4, y5]) ⟨_, rfl⟩ rfl rfl rfl rfl ?_
    refine ax_mv 1 173 [some (.ref r), some (ax_i x1), some (ax_i (x2 + 1)), some (ax_i x3), y4, y5] [] rfl ?_
    exact h
  · have h := h.2 (Int.not_le.mp hc)
    refine ax_mv 1 214 [some (.ref r), some (ax_i x1), some (ax_i x2), some (ax_i x3), y4, y5] [.ref r] rfl ?_
    refine ax_gR (v := .ref (B + 47)) (pc' := 217) ⟨_, rfl⟩ fl_3_35 (az_e 0 rfl) rfl rfl ?_
    refine ax_gR (v := .ref (B + 51)) (pc' := 220) ⟨_, rfl⟩ fl_3_108 (az_b 47 rfl) rfl rfl ?_
    refine ax_mv 1 221 [some (.ref r), some (ax_i x1), some (ax_i x2), some (ax_i x3), y4, y5] [ax_i x2, .ref (B + 51)] rfl ?_
    obtain ⟨o18, h⟩ := h
    refine ax_ild (n := 350) (pc' := 222) ⟨_, rfl⟩ (az_b 51 rfl) (by decide) o18 rfl ?_
    refine ax_mv 1 223 [some (.ref r), some (ax_i x1), some (ax_i x2), some (ax_i x3), y4, y5] [ax_i (-1), ax_i (V 551 x2)] rfl ?_
    refine ax_if2 (p1 := 271) (p2 := 226) ⟨_, rfl⟩ (by decide) rfl (hg _ _) (by decide) (fun hc => ?_) (fun hc => ?_)
    · have h := h.1 hc
      refine ax_inc (x := x2) (pc' := 274) (L' := [some (.ref r), some (ax_i x1), some (ax_i (x2 + 1)), some (ax_i x3), y4, y5]) ⟨_, rfl⟩ rfl rfl rfl rfl ?_
      refine ax_mv 1 173 [some (.ref r), some (ax_i x1), some (ax_i (x2 + 1)), some (ax_i x3), y4, y5] [] rfl ?_
      exact h
    · have h := h.2 hc
      refine ax_mv 2 228 [some (.ref r), some (ax_i x1), some (ax_i x2), some (ax_i x3), y4, y5] [.ref r, .ref r] rfl ?_
      refine ax_gR (v := .ref (B + 32)) (pc' := 231) ⟨_, rfl⟩ fl_3_30 (az_e 0 rfl) rfl rfl ?_
      refine ax_gR (v := .ref (B + 36)) (pc' := 234) ⟨_, rfl⟩ fl_3_193 (az_b 32 rfl) rfl rfl ?_
      refine ax_mv 1 235 [some (.ref r), some (ax_i x1), some (ax_i x2), some (ax_i x3), y4, y5] [.ref r, .ref (B + 36), .ref r] rfl ?_
      refine ax_gR (v := .ref (B + 47)) (pc' := 238) ⟨_, rfl⟩ fl_3_35 (az_e 0 rfl) rfl rfl ?_
      refine ax_gR (v := .ref (B + 54)) (pc' := 241) ⟨_, rfl⟩ fl_3_102 (az_b 47 rfl) rfl rfl ?_
      refine ax_mv 1 242 [some (.ref r), some (ax_i x1), some (ax_i x2), some (ax_i x3), y4, y5] [ax_i x3, .ref (B + 54), .ref (B + 36), .ref r] rfl ?_
      obtain ⟨o19, h⟩ := h
      refine ax_ild (n := 350) (pc' := 243) ⟨_, rfl⟩ (az_b 54 rfl) (by decide) o19 rfl ?_
      obtain ⟨o20, h⟩ := h
      refine ax_ild (n := 208) (pc' := 244) ⟨_, rfl⟩ (az_b 36 rfl) (by decide) o20 rfl ?_
      refine ax_mv 1 245 [some (.ref r), some (ax_i x1), some (ax_i x2), some (ax_i x3), y4, y5] [ax_i (-1), ax_i (V 536 (V 554 x3)), .ref r] rfl ?_
      refine ax_if2 (p1 := 252) (p2 := 248) ⟨_, rfl⟩ (by decide) rfl (hg _ _) (by decide) (fun hc => ?_) (fun hc => ?_)
      · have h := h.1 hc
        refine ax_mv 2 254 [some (.ref r), some (ax_i x1), some (ax_i x2), some (ax_i x3), y4, y5] [.ref r, ax_i 0, .ref r] rfl ?_
        refine ax_gR (v := .ref (B + 47)) (pc' := 257) ⟨_, rfl⟩ fl_3_35 (az_e 0 rfl) rfl rfl ?_
        refine ax_gR (v := .ref (B + 55)) (pc' := 260) ⟨_, rfl⟩ fl_3_105 (az_b 47 rfl) rfl rfl ?_
        refine ax_mv 1 261 [some (.ref r), some (ax_i x1), some (ax_i x2), some (ax_i x3), y4, y5] [ax_i x3, .ref (B + 55), ax_i 0, .ref r] rfl ?_
        obtain ⟨o21, h⟩ := h
        refine ax_ild (n := 350) (pc' := 262) ⟨_, rfl⟩ (az_b 55 rfl) (by decide) o21 rfl ?_
        refine ax_callN (pc' := 265) ⟨_, rfl⟩ ml_3_123 (rest := []) rfl (fun ss hs => ⟨_, _, (az_e 0 rfl) ss hs⟩) (Nat.le_of_ble_eq_true rfl) rfl rfl h (fun V1 hg1 h => ?_)
        refine ax_inc (x := x3) (pc' := 268) (L' := [some (.ref r), some (ax_i x1), some (ax_i x2), some (ax_i (x3 + 1)), y4, y5]) ⟨_, rfl⟩ rfl rfl rfl rfl ?_
        refine ax_mv 1 198 [some (.ref r), some (ax_i x1), some (ax_i x2), some (ax_i (x3 + 1)), y4, y5] [] rfl ?_
        exact h
      · have h := h.2 hc
        refine ax_mv 3 254 [some (.ref r), some (ax_i x1), some (ax_i x2), some (ax_i x3), y4, y5] [.ref r, ax_i 1, .ref r] rfl ?_
        refine ax_gR (v := .ref (B + 47)) (pc' := 257) ⟨_, rfl⟩ fl_3_35 (az_e 0 rfl) rfl rfl ?_
        refine ax_gR (v := .ref (B + 55)) (pc' := 260) ⟨_, rfl⟩ fl_3_105 (az_b 47 rfl) rfl rfl ?_
        refine ax_mv 1 261 [some (.ref r), some (ax_i x1), some (ax_i x2), some (ax_i x3), y4, y5] [ax_i x3, .ref (B + 55), ax_i 1, .ref r] rfl ?_
        obtain ⟨o22, h⟩ := h
        refine ax_ild (n := 350) (pc' := 262) ⟨_, rfl⟩ (az_b 55 rfl) (by decide) o22 rfl ?_
        refine ax_callN (pc' := 265) ⟨_, rfl⟩ ml_3_123 (rest := []) rfl (fun ss hs => ⟨_, _, (az_e 0 rfl) ss hs⟩) (Nat.le_of_ble_eq_true rfl) rfl rfl h (fun V2 hg2 h => ?_)
        refine ax_inc (x := x3) (pc' := 268) (L' := [some (.ref r), some (ax_i x1), some (ax_i x2), some (ax_i (x3 + 1)), y4, y5]) ⟨_, rfl⟩ rfl rfl rfl rfl ?_
        refine ax_mv 1 198 [some (.ref r), some (ax_i x1), some (ax_i x2), some (ax_i (x3 + 1)), y4, y5] [] rfl ?_
        exact h
set_option maxRecDepth 20000 in
theorem r_Judge_judgeBases {B : Nat} {r : Nat} {d : Nat} {V : ax_V} {Φ : ax_V → Prop} {Θ : ax_V → Prop} {x1 : Int} (hg : ax_g V) (hx1 : ax_rg x1) (h : (0 ≤ x1 ∧ x1 < 9) ∧ k_Judge_judgeBases_10 B r d x1 (V 508 x1) none none none V Φ Θ) : ax_N (az_W B (az_EJ B r)) (d + 1) q_Judge_judgeBases [.ref r, ax_i x1] V Φ Θ := by
  refine ax_T.of (M := m_Judge_judgeBases) rfl (Nat.le_of_ble_eq_true rfl) ?_
  refine ax_mv 0 0 [some (.ref r), some (ax_i x1), none, none, none, none] [] rfl ?_
  refine ax_mv 1 1 [some (.ref r), some (ax_i x1), none, none, none, none] [.ref r] rfl ?_
  refine ax_gR (v := .ref B) (pc' := 4) ⟨_, rfl⟩ fl_3_15 (az_e 0 rfl) rfl rfl ?_
  refine ax_gR (v := .ref (B + 8)) (pc' := 7) ⟨_, rfl⟩ fl_3_149 (az_b 0 rfl) rfl rfl ?_
  refine ax_mv 1 8 [some (.ref r), some (ax_i x1), none, none, none, none] [ax_i x1, .ref (B + 8)] rfl ?_
  obtain ⟨o23, h⟩ := h
  refine ax_ild (n := 9) (pc' := 9) ⟨_, rfl⟩ (az_b 8 rfl) (by decide) o23 rfl ?_
  refine ax_sti (i := 0) (k := 2) (n := 1) (pc' := 10) (L' := [some (.ref r), some (ax_i x1), some (ax_i (V 508 x1)), none, none, none]) ⟨_, rfl⟩ rfl rfl rfl (Nat.le_of_ble_eq_true rfl) rfl rfl ?_
  exact h
abbrev k_Judge_findBare_2 (B : Nat) (r : Nat) (d : Nat) (x1 : Int) (x2 : Int) (y3 : Option Value) (y4 : Option Value) (y5 : Option Value) (y6 : Option Value) (V : ax_V) (Φ : ax_V → Prop) (Θ : ax_V → Prop) : Prop := ax_R (az_W B (az_EJ B r)) ax_t d m_Judge_findBare 2 [some (.ref r), some (ax_i x1), some (ax_i x2), y3, y4, y5, y6] [] V (ax_Nr Φ) Θ
abbrev k_Judge_findBare_18 (B : Nat) (r : Nat) (d : Nat) (x1 : Int) (x2 : Int) (x3 : Int) (y4 : Option Value) (y5 : Option Value) (y6 : Option Value) (V : ax_V) (Φ : ax_V → Prop) (Θ : ax_V → Prop) : Prop := ax_R (az_W B (az_EJ B r)) ax_t d m_Judge_findBare 18 [some (.ref r), some (ax_i x1), some (ax_i x2), some (ax_i x3), y4, y5, y6] [] V (ax_Nr Φ) Θ
abbrev k_Judge_findBare_66 (B : Nat) (r : Nat) (d : Nat) (x1 : Int) (x2 : Int) (x3 : Int) (x4 : Int) (y5 : Option Value) (y6 : Option Value) (V : ax_V) (Φ : ax_V → Prop) (Θ : ax_V → Prop) : Prop := ax_R (az_W B (az_EJ B r)) ax_t d m_Judge_findBare 66 [some (.ref r), some (ax_i x1), some (ax_i x2), some (ax_i x3), some (ax_i x4), y5, y6] [] V (ax_Nr Φ) Θ
abbrev k_Judge_findBare_94 (B : Nat) (r : Nat) (d : Nat) (x1 : Int) (x2 : Int) (x3 : Int) (x4 : Int) (x5 : Int) (y6 : Option Value) (V : ax_V) (Φ : ax_V → Prop) (Θ : ax_V → Prop) : Prop := ax_R (az_W B (az_EJ B r)) ax_t d m_Judge_findBare 94 [some (.ref r), some (ax_i x1), some (ax_i x2), some (ax_i x3), some (ax_i x4), some (ax_i x5), y6] [] V (ax_Nr Φ) Θ
set_option maxRecDepth 20000 in
theorem r_Judge_findBare_2 {B : Nat} {r : Nat} {d : Nat} {V : ax_V} {Φ : ax_V → Prop} {Θ : ax_V → Prop} {x1 : Int} {x2 : Int} {y3 : Option Value} {y4 : Option Value} {y5 : Option Value} {y6 : Option Value} (hg : ax_g V) (hx1 : ax_rg x1) (hx2 : ax_rg x2) (hy3 : ax_y y3) (hy4 : ax_y y4) (hy5 : ax_y y5) (hy6 : ax_y y6) (h : ((26 < x2 → Φ V) ∧ (x2 ≤ 26 → (0 ≤ x1 ∧ x1 < 9) ∧ k_Judge_findBare_18 B r d x1 x2 (V 508 x1) y4 y5 y6 V Φ Θ))) : k_Judge_findBare_2 B r d x1 x2 y3 y4 y5 y6 V Φ Θ := by
  refine ax_mv 1 3 [some (.ref r), some (ax_i x1), some (ax_i x2), y3, y4, y5, y6] [ax_i x2] rfl ?_
  refine ax_bip (pc' := 5) ⟨_, rfl⟩ (by decide) rfl ?_
  refine ax_if2 (p1 := 195) (p2 := 8) ⟨_, rfl⟩ (by decide) rfl hx2 (by decide) (fun hc => ?_) (fun hc => ?_)
  · have h := h.1 hc
    exact ax_nret ⟨_, rfl⟩ rfl hg h
  · have h := h.2 (Int.not_lt.mp hc)
    refine ax_mv 1 9 [some (.ref r), some (ax_i x1), some (ax_i x2), y3, y4, y5, y6] [.ref r] rfl ?_
    refine ax_gR (v := .ref B) (pc' := 12) ⟨_, rfl⟩ fl_3_15 (az_e 0 rfl) rfl rfl ?_
    refine ax_gR (v := .ref (B + 8)) (pc' := 15) ⟨_, rfl⟩ fl_3_149 (az_b 0 rfl) rfl rfl ?_
    refine ax_mv 1 16 [some (.ref r), some (ax_i x1), some (ax_i x2), y3, y4, y5, y6] [ax_i x1, .ref (B + 8)] rfl ?_
    obtain ⟨o1, h⟩ := h
    refine ax_ild (n := 9) (pc' := 17) ⟨_, rfl⟩ (az_b 8 rfl) (by decide) o1 rfl ?_
    refine ax_sti (i := 0) (k := 3) (n := 1) (pc' := 18) (L' := [some (.ref r), some (ax_i x1), some (ax_i x2), some (ax_i (V 508 x1)), y4, y5, y6]) ⟨_, rfl⟩ rfl rfl rfl (Nat.le_of_ble_eq_true rfl) rfl rfl ?_
    exact h
set_option maxRecDepth 20000 in
theorem r_Judge_findBare_18 {B : Nat} {r : Nat} {d : Nat} {V : ax_V} {Φ : ax_V → Prop} {Θ : ax_V → Prop} {x1 : Int} {x2 : Int} {x3 : Int} {y4 : Option Value} {y5 : Option Value} {y6 : Option Value} (hg : ax_g V) (hx1 : ax_rg x1) (hx2 : ax_rg x2) (hx3 : ax_rg x3) (hy4 : ax_y y4) (hy5 : ax_y y5) (hy6 : ax_y y6) (h : (0 ≤ x1 + 1 ∧ x1 + 1 < 9) ∧ ((V 508 (x1 + 1) ≤ x3 → (0 ≤ x1 ∧ x1 < 9) ∧ k_Judge_findBare_66 B r d x1 x2 0 (V 509 x1) y5 y6 V Φ Θ) ∧ (x3 < V 508 (x1 + 1) → ax_I (az_W B (az_EJ B r)) d q_Judge_isBare [.ref r, ax_i x3] V (fun r1 V1 => (0 ≤ x3 ∧ x3 < 700) ∧ (r1 = 0 ∨ r1 = 1) ∧ (∀ V2, V2 = ax_u V1 530 x3 r1 → k_Judge_findBare_18 B r d x1 x2 (x3 + 1) y4 y5 y6 V2 Φ Θ)) Θ))) : k_Judge_findBare_18 B r d x1 x2 x3 y4 y5 y6 V Φ Θ := by
  refine ax_mv 2 20 [some (.ref r), some (ax_i x1), some (ax_i x2), some (ax_i x3), y4, y5, y6] [.ref r, ax_i x3] rfl ?_
  refine ax_gR (v := .ref B) (pc' := 23) ⟨_, rfl⟩ fl_3_15 (az_e 0 rfl) rfl rfl ?_
  refine ax_gR (v := .ref (B + 8)) (pc' := 26) ⟨_, rfl⟩ fl_3_149 (az_b 0 rfl) rfl rfl ?_
  refine ax_mv 2 28 [some (.ref r), some (ax_i x1), some (ax_i x2), some (ax_i x3), y4, y5, y6] [ax_i 1, ax_i x1, .ref (B + 8), ax_i x3] rfl ?_
  refine ax_add (pc' := 29) ⟨_, rfl⟩ rfl ?_
  obtain ⟨o2, h⟩ := h
  refine ax_ild (n := 9) (pc' := 30) ⟨_, rfl⟩ (az_b 8 rfl) (by decide) o2 rfl ?_
  refine ax_if2 (p1 := 53) (p2 := 33) ⟨_, rfl⟩ (by decide) rfl hx3 (hg _ _) (fun hc => ?_) (fun hc => ?_)
  · have h := h.1 hc
    refine ax_mv 1 54 [some (.ref r), some (ax_i x1), some (ax_i x2), some (ax_i x3), y4, y5, y6] [ax_i 0] rfl ?_
    refine ax_sti (i := 0) (k := 3) (n := 1) (pc' := 55) (L' := [some (.ref r), some (ax_i x1), some (ax_i x2), some (ax_i 0), y4, y5, y6]) ⟨_, rfl⟩ rfl rfl rfl (Nat.le_of_ble_eq_true rfl) rfl rfl ?_
    refine ax_mv 1 56 [some (.ref r), some (ax_i x1), some (ax_i x2), some (ax_i 0), y4, y5, y6] [.ref r] rfl ?_
    refine ax_gR (v := .ref B) (pc' := 59) ⟨_, rfl⟩ fl_3_15 (az_e 0 rfl) rfl rfl ?_
    refine ax_gR (v := .ref (B + 9)) (pc' := 62) ⟨_, rfl⟩ fl_3_94 (az_b 0 rfl) rfl rfl ?_
    refine ax_mv 1 63 [some (.ref r), some (ax_i x1), some (ax_i x2), some (ax_i 0), y4, y5, y6] [ax_i x1, .ref (B + 9)] rfl ?_
    obtain ⟨o3, h⟩ := h
    refine ax_ild (n := 9) (pc' := 64) ⟨_, rfl⟩ (az_b 9 rfl) (by decide) o3 rfl ?_
    refine ax_sti (i := 0) (k := 4) (n := 2) (pc' := 66) (L' := [some (.ref r), some (ax_i x1), some (ax_i x2), some (ax_i 0), some (ax_i (V 509 x1)), y5, y6]) ⟨_, rfl⟩ rfl rfl rfl (Nat.le_of_ble_eq_true rfl) rfl rfl ?_
    exact h
  · have h := h.2 (Int.not_le.mp hc)
    refine ax_mv 1 34 [some (.ref r), some (ax_i x1), some (ax_i x2), some (ax_i x3), y4, y5, y6] [.ref r] rfl ?_
    refine ax_gR (v := .ref (B + 16)) (pc' := 37) ⟨_, rfl⟩ fl_3_25 (az_e 0 rfl) rfl rfl ?_
    refine ax_gR (v := .ref (B + 30)) (pc' := 40) ⟨_, rfl⟩ fl_3_262 (az_b 16 rfl) rfl rfl ?_
    refine ax_mv 3 43 [some (.ref r), some (ax_i x1), some (ax_i x2), some (ax_i x3), y4, y5, y6] [ax_i x3, .ref r, ax_i x3, .ref (B + 30)] rfl ?_
    refine ax_callI (pc' := 46) ⟨_, rfl⟩ ml_3_265 (rest := [ax_i x3, .ref (B + 30)]) rfl (fun ss hs => ⟨_, _, (az_e 0 rfl) ss hs⟩) (Nat.le_of_ble_eq_true rfl) rfl rfl h (fun r1 V1 hg1 hr1 h => ?_)
    obtain ⟨o4, o5, h⟩ := h
    obtain ⟨V2, eV2⟩ : ∃ W9 : ax_V, W9 = ax_u V1 530 x3 r1 := ⟨_, rfl⟩
    have h := h V2 eV2
    have hg2 : ax_g V2 := eV2 ▸ ax_u_g hg1 hr1
    refine ax_bst (n := 700) (pc' := 47) ⟨_, rfl⟩ az_ok (az_b 30 rfl) (by decide) o4 o5 eV2 rfl ?_
    refine ax_inc (x := x3) (pc' := 50) (L' := [some (.ref r), some (ax_i x1), some (ax_i x2), some (ax_i (x3 + 1)), y4, y5, y6]) ⟨_, rfl⟩ rfl rfl rfl rfl ?_
    refine ax_mv 1 18 [some (.ref r), some (ax_i x1), some (ax_i x2), some (ax_i (x3 + 1)), y4, y5, y6] [] rfl ?_
    exact h
set_option maxRecDepth 20000 in
theorem r_Judge_findBare_66 {B : Nat} {r : Nat} {d : Nat} {V : ax_V} {Φ : ax_V → Prop} {Θ : ax_V → Prop} {x1 : Int} {x2 : Int} {x3 : Int} {x4 : Int} {y5 : Option Value} {y6 : Option Value} (hg : ax_g V) (hx1 : ax_rg x1) (hx2 : ax_rg x2) (hx3 : ax_rg x3) (hx4 : ax_rg x4) (hy5 : ax_y y5) (hy6 : ax_y y6) (h : (0 ≤ x1 + 1 ∧ x1 + 1 < 9) ∧ ((V 509 (x1 + 1) ≤ x4 → ((x3 = 0 → Φ V) ∧ (¬ x3 = 0 → k_Judge_findBare_2 B r d x1 (x2 + 1) (some (ax_i x3)) (some (ax_i x4)) y5 y6 V Φ Θ))) ∧ (x4 < V 509 (x1 + 1) → (0 ≤ x4 ∧ x4 < 351) ∧ k_Judge_findBare_94 B r d x1 x2 x3 x4 (V 548 x4) y6 V Φ Θ))) : k_Judge_findBare_66 B r d x1 x2 x3 x4 y5 y6 V Φ Θ := by
  refine ax_mv 2 69 [some (.ref r), some (ax_i x1), some (ax_i x2), some (ax_i x3), some (ax_i x4), y5, y6] [.ref r, ax_i x4] rfl ?_
  refine ax_gR (v := .ref B) (pc' := 72) ⟨_, rfl⟩ fl_3_15 (az_e 0 rfl) rfl rfl ?_
  refine ax_gR (v := .ref (B + 9)) (pc' := 75) ⟨_, rfl⟩ fl_3_94 (az_b 0 rfl) rfl rfl ?_
  refine ax_mv 2 77 [some (.ref r), some (ax_i x1), some (ax_i x2), some (ax_i x3), some (ax_i x4), y5, y6] [ax_i 1, ax_i x1, .ref (B + 9), ax_i x4] rfl ?_
  refine ax_add (pc' := 78) ⟨_, rfl⟩ rfl ?_
  obtain ⟨o6, h⟩ := h
  refine ax_ild (n := 9) (pc' := 79) ⟨_, rfl⟩ (az_b 9 rfl) (by decide) o6 rfl ?_
  refine ax_if2 (p1 := 182) (p2 := 82) ⟨_, rfl⟩ (by decide) rfl hx4 (hg _ _) (fun hc => ?_) (fun hc => ?_)
  · have h := h.1 hc
    refine ax_mv 1 183 [some (.ref r), some (ax_i x1), some (ax_i x2), some (ax_i x3), some (ax_i x4), y5, y6] [ax_i x3] rfl ?_
    refine ax_if (p1 := 189) (p2 := 186) ⟨_, rfl⟩ (by decide) rfl hx3 (fun hc => ?_) (fun hc => ?_)
    · have h := h.2 hc
      refine ax_inc (x := x2) (pc' := 192) (L' := [some (.ref r), some (ax_i x1), some (ax_i (x2 + 1)), some (ax_i x3), some (ax_i x4), y5, y6]) ⟨_, rfl⟩ rfl rfl rfl rfl ?_
      refine ax_mv 1 2 [some (.ref r), some (ax_i x1), some (ax_i (x2 + 1)), some (ax_i x3), some (ax_i x4), y5, y6] [] rfl ?_
      exact h
    · have h := h.1 (Classical.not_not.mp hc)
      refine ax_mv 1 195 [some (.ref r), some (ax_i x1), some (ax_i x2), some (ax_i x3), some (ax_i x4), y5, y6] [] rfl ?_
      exact ax_nret ⟨_, rfl⟩ rfl hg h
  · have h := h.2 (Int.not_le.mp hc)
    refine ax_mv 1 83 [some (.ref r), some (ax_i x1), some (ax_i x2), some (ax_i x3), some (ax_i x4), y5, y6] [.ref r] rfl ?_
    refine ax_gR (v := .ref (B + 47)) (pc' := 86) ⟨_, rfl⟩ fl_3_35 (az_e 0 rfl) rfl rfl ?_
    refine ax_gR (v := .ref (B + 48)) (pc' := 89) ⟨_, rfl⟩ fl_3_97 (az_b 47 rfl) rfl rfl ?_
    refine ax_mv 1 91 [some (.ref r), some (ax_i x1), some (ax_i x2), some (ax_i x3), some (ax_i x4), y5, y6] [ax_i x4, .ref (B + 48)] rfl ?_
    obtain ⟨o7, h⟩ := h
    refine ax_ild (n := 351) (pc' := 92) ⟨_, rfl⟩ (az_b 48 rfl) (by decide) o7 rfl ?_
    refine ax_sti (i := 0) (k := 5) (n := 2) (pc' := 94) (L' := [some (.ref r), some (ax_i x1), some (ax_i x2), some (ax_i x3), some (ax_i x4), some (ax_i (V 548 x4)), y6]) ⟨_, rfl⟩ rfl rfl rfl (Nat.le_of_ble_eq_true rfl) rfl rfl ?_
    exact h
set_option maxRecDepth 20000 in
theorem r_Judge_findBare_94 {B : Nat} {r : Nat} {d : Nat} {V : ax_V} {Φ : ax_V → Prop} {Θ : ax_V → Prop} {x1 : Int} {x2 : Int} {x3 : Int} {x4 : Int} {x5 : Int} {y6 : Option Value} (hg : ax_g V) (hx1 : ax_rg x1) (hx2 : ax_rg x2) (hx3 : ax_rg x3) (hx4 : ax_rg x4) (hx5 : ax_rg x5) (hy6 : ax_y y6) (h : (0 ≤ x4 + 1 ∧ x4 + 1 < 351) ∧ ((V 548 (x4 + 1) ≤ x5 → k_Judge_findBare_66 B r d x1 x2 x3 (x4 + 1) (some (ax_i x5)) y6 V Φ Θ) ∧ (x5 < V 548 (x4 + 1) → (0 ≤ x5 ∧ x5 < 350) ∧ (0 ≤ x4 ∧ x4 < 350) ∧ (0 ≤ V 550 x4 ∧ V 550 x4 < 700) ∧ ((V 530 (V 550 x4) = 0 → k_Judge_findBare_94 B r d x1 x2 x3 x4 (x5 + 1) (some (ax_i (V 554 x5))) V Φ Θ) ∧ (¬ V 530 (V 550 x4) = 0 → (0 ≤ V 554 x5 ∧ V 554 x5 < 208) ∧ ((V 544 (V 554 x5) = 0 → (0 ≤ V 554 x5 ∧ V 554 x5 < 208) ∧ (∀ V1, V1 = ax_u V 544 (V 554 x5) 1 → k_Judge_findBare_94 B r d x1 x2 1 x4 (x5 + 1) (some (ax_i (V 554 x5))) V1 Φ Θ)) ∧ (¬ V 544 (V 554 x5) = 0 → k_Judge_findBare_94 B r d x1 x2 x3 x4 (x5 + 1) (some (ax_i (V 554 x5))) V Φ Θ))))))) : k_Judge_findBare_94 B r d x1 x2 x3 x4 x5 y6 V Φ Θ := by
  refine ax_mv 2 97 [some (.ref r), some (ax_i x1), some (ax_i x2), some (ax_i x3), some (ax_i x4), some (ax_i x5), y6] [.ref r, ax_i x5] rfl ?_
  refine ax_gR (v := .ref (B + 47)) (pc' := 100) ⟨_, rfl⟩ fl_3_35 (az_e 0 rfl) rfl rfl ?_
  refine ax_gR (v := .ref (B + 48)) (pc' := 103) ⟨_, rfl⟩ fl_3_97 (az_b 47 rfl) rfl rfl ?_
  refine ax_mv 2 106 [some (.ref r), some (ax_i x1), some (ax_i x2), some (ax_i x3), some (ax_i x4), some (ax_i x5), y6] [ax_i 1, ax_i x4, .ref (B + 48), ax_i x5] rfl ?_
  refine ax_add (pc' := 107) ⟨_, rfl⟩ rfl ?_
  obtain ⟨o8, h⟩ := h
  refine ax_ild (n := 351) (pc' := 108) ⟨_, rfl⟩ (az_b 48 rfl) (by decide) o8 rfl ?_
  refine ax_if2 (p1 := 176) (p2 := 111) ⟨_, rfl⟩ (by decide) rfl hx5 (hg _ _) (fun hc => ?_) (fun hc => ?_)
  · have h := h.1 hc
    refine ax_inc (x := x4) (pc' := 179) (L' := [some (.ref r), some (ax_i x1), some (ax_i x2), some (ax_i x3), some (ax_i (x4 + 1)), some (ax_i x5), y6]) ⟨_, rfl⟩ rfl rfl rfl rfl ?_
    refine ax_mv 1 66 [some (.ref r), some (ax_i x1), some (ax_i x2), some (ax_i x3), some (ax_i (x4 + 1)), some (ax_i x5), y6] [] rfl ?_
    exact h
  · have h := h.2 (Int.not_le.mp hc)
    refine ax_mv 1 112 [some (.ref r), some (ax_i x1), some (ax_i x2), some (ax_i x3), some (ax_i x4), some (ax_i x5), y6] [.ref r] rfl ?_
    refine ax_gR (v := .ref (B + 47)) (pc' := 115) ⟨_, rfl⟩ fl_3_35 (az_e 0 rfl) rfl rfl ?_
    refine ax_gR (v := .ref (B + 54)) (pc' := 118) ⟨_, rfl⟩ fl_3_102 (az_b 47 rfl) rfl rfl ?_
    refine ax_mv 1 120 [some (.ref r), some (ax_i x1), some (ax_i x2), some (ax_i x3), some (ax_i x4), some (ax_i x5), y6] [ax_i x5, .ref (B + 54)] rfl ?_
    obtain ⟨o9, h⟩ := h
    refine ax_ild (n := 350) (pc' := 121) ⟨_, rfl⟩ (az_b 54 rfl) (by decide) o9 rfl ?_
    refine ax_sti (i := 0) (k := 6) (n := 2) (pc' := 123) (L' := [some (.ref r), some (ax_i x1), some (ax_i x2), some (ax_i x3), some (ax_i x4), some (ax_i x5), some (ax_i (V 554 x5))]) ⟨_, rfl⟩ rfl rfl rfl (Nat.le_of_ble_eq_true rfl) rfl rfl ?_
    refine ax_mv 1 124 [some (.ref r), some (ax_i x1), some (ax_i x2), some (ax_i x3), some (ax_i x4), some (ax_i x5), some (ax_i (V 554 x5))] [.ref r] rfl ?_
    refine ax_gR (v := .ref (B + 16)) (pc' := 127) ⟨_, rfl⟩ fl_3_25 (az_e 0 rfl) rfl rfl ?_
    refine ax_gR (v := .ref (B + 30)) (pc' := 130) ⟨_, rfl⟩ fl_3_262 (az_b 16 rfl) rfl rfl ?_
    refine ax_mv 1 131 [some (.ref r), some (ax_i x1), some (ax_i x2), some (ax_i x3), some (ax_i x4), some (ax_i x5), some (ax_i (V 554 x5))] [.ref r, .ref (B + 30)] rfl ?_
    refine ax_gR (v := .ref (B + 47)) (pc' := 134) ⟨_, rfl⟩ fl_3_35 (az_e 0 rfl) rfl rfl ?_
    refine ax_gR (v := .ref (B + 50)) (pc' := 137) ⟨_, rfl⟩ fl_3_245 (az_b 47 rfl) rfl rfl ?_
    refine ax_mv 1 139 [some (.ref r), some (ax_i x1), some (ax_i x2), some (ax_i x3), some (ax_i x4), some (ax_i x5), some (ax_i (V 554 x5))] [ax_i x4, .ref (B + 50), .ref (B + 30)] rfl ?_
    obtain ⟨o10, h⟩ := h
    refine ax_ild (n := 350) (pc' := 140) ⟨_, rfl⟩ (az_b 50 rfl) (by decide) o10 rfl ?_
    obtain ⟨o11, h⟩ := h
    refine ax_bld (n := 700) (pc' := 141) ⟨_, rfl⟩ (az_b 30 rfl) (by decide) o11 rfl ?_
    refine ax_if (p1 := 170) (p2 := 144) ⟨_, rfl⟩ (by decide) rfl (hg _ _) (fun hc => ?_) (fun hc => ?_)
    · have h := h.1 hc
      refine ax_inc (x := x5) (pc' := 173) (L' := [some (.ref r), some (ax_i x1), some (ax_i x2), some (ax_i x3), some (ax_i x4), some (ax_i (x5 + 1)), some (ax_i (V 554 x5))]) ⟨_, rfl⟩ rfl rfl rfl rfl ?_
      refine ax_mv 1 94 [some (.ref r), some (ax_i x1), some (ax_i x2), some (ax_i x3), some (ax_i x4), some (ax_i (x5 + 1)), some (ax_i (V 554 x5))] [] rfl ?_
      exact h
    · have h := h.2 hc
      refine ax_mv 1 145 [some (.ref r), some (ax_i x1), some (ax_i x2), some (ax_i x3), some (ax_i x4), some (ax_i x5), some (ax_i (V 554 x5))] [.ref r] rfl ?_
      refine ax_gR (v := .ref (B + 32)) (pc' := 148) ⟨_, rfl⟩ fl_3_30 (az_e 0 rfl) rfl rfl ?_
      refine ax_gR (v := .ref (B + 44)) (pc' := 151) ⟨_, rfl⟩ fl_3_268 (az_b 32 rfl) rfl rfl ?_
      refine ax_mv 1 153 [some (.ref r), some (ax_i x1), some (ax_i x2), some (ax_i x3), some (ax_i x4), some (ax_i x5), some (ax_i (V 554 x5))] [ax_i (V 554 x5), .ref (B + 44)] rfl ?_
      obtain ⟨o12, h⟩ := h
      refine ax_bld (n := 208) (pc' := 154) ⟨_, rfl⟩ (az_b 44 rfl) (by decide) o12 rfl ?_
      refine ax_if (p1 := 170) (p2 := 157) ⟨_, rfl⟩ (by decide) rfl (hg _ _) (fun hc => ?_) (fun hc => ?_)
      · have h := h.2 hc
        refine ax_inc (x := x5) (pc' := 173) (L' := [some (.ref r), some (ax_i x1), some (ax_i x2), some (ax_i x3), some (ax_i x4), some (ax_i (x5 + 1)), some (ax_i (V 554 x5))]) ⟨_, rfl⟩ rfl rfl rfl rfl ?_
        refine ax_mv 1 94 [some (.ref r), some (ax_i x1), some (ax_i x2), some (ax_i x3), some (ax_i x4), some (ax_i (x5 + 1)), some (ax_i (V 554 x5))] [] rfl ?_
        exact h
      · have h := h.1 (Classical.not_not.mp hc)
        refine ax_mv 1 158 [some (.ref r), some (ax_i x1), some (ax_i x2), some (ax_i x3), some (ax_i x4), some (ax_i x5), some (ax_i (V 554 x5))] [.ref r] rfl ?_
        refine ax_gR (v := .ref (B + 32)) (pc' := 161) ⟨_, rfl⟩ fl_3_30 (az_e 0 rfl) rfl rfl ?_
        refine ax_gR (v := .ref (B + 44)) (pc' := 164) ⟨_, rfl⟩ fl_3_268 (az_b 32 rfl) rfl rfl ?_
        refine ax_mv 2 167 [some (.ref r), some (ax_i x1), some (ax_i x2), some (ax_i x3), some (ax_i x4), some (ax_i x5), some (ax_i (V 554 x5))] [ax_i 1, ax_i (V 554 x5), .ref (B + 44)] rfl ?_
        obtain ⟨o13, h⟩ := h
        obtain ⟨V1, eV1⟩ : ∃ W9 : ax_V, W9 = ax_u V 544 (V 554 x5) 1 := ⟨_, rfl⟩
        have h := h V1 eV1
        have hg1 : ax_g V1 := eV1 ▸ ax_u_g hg (by decide)
        refine ax_bst (n := 208) (pc' := 168) ⟨_, rfl⟩ az_ok (az_b 44 rfl) (by decide) o13 (by decide) eV1 rfl ?_
        refine ax_mv 1 169 [some (.ref r), some (ax_i x1), some (ax_i x2), some (ax_i x3), some (ax_i x4), some (ax_i x5), some (ax_i (V 554 x5))] [ax_i 1] rfl ?_
        refine ax_sti (i := 0) (k := 3) (n := 1) (pc' := 170) (L' := [some (.ref r), some (ax_i x1), some (ax_i x2), some (ax_i 1), some (ax_i x4), some (ax_i x5), some (ax_i (V 554 x5))]) ⟨_, rfl⟩ rfl rfl rfl (Nat.le_of_ble_eq_true rfl) rfl rfl ?_
        refine ax_inc (x := x5) (pc' := 173) (L' := [some (.ref r), some (ax_i x1), some (ax_i x2), some (ax_i 1), some (ax_i x4), some (ax_i (x5 + 1)), some (ax_i (V 554 x5))]) ⟨_, rfl⟩ rfl rfl rfl rfl ?_
        refine ax_mv 1 94 [some (.ref r), some (ax_i x1), some (ax_i x2), some (ax_i 1), some (ax_i x4), some (ax_i (x5 + 1)), some (ax_i (V 554 x5))] [] rfl ?_
        exact h
set_option maxRecDepth 20000 in
theorem r_Judge_findBare {B : Nat} {r : Nat} {d : Nat} {V : ax_V} {Φ : ax_V → Prop} {Θ : ax_V → Prop} {x1 : Int} (hg : ax_g V) (hx1 : ax_rg x1) (h : k_Judge_findBare_2 B r d x1 0 none none none none V Φ Θ) : ax_N (az_W B (az_EJ B r)) (d + 1) q_Judge_findBare [.ref r, ax_i x1] V Φ Θ := by
  refine ax_T.of (M := m_Judge_findBare) rfl (Nat.le_of_ble_eq_true rfl) ?_
  refine ax_mv 0 0 [some (.ref r), some (ax_i x1), none, none, none, none, none] [] rfl ?_
  refine ax_mv 1 1 [some (.ref r), some (ax_i x1), none, none, none, none, none] [ax_i 0] rfl ?_
  refine ax_sti (i := 0) (k := 2) (n := 1) (pc' := 2) (L' := [some (.ref r), some (ax_i x1), some (ax_i 0), none, none, none, none]) ⟨_, rfl⟩ rfl rfl rfl (Nat.le_of_ble_eq_true rfl) rfl rfl ?_
  exact h
