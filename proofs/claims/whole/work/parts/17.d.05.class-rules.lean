/-! RULES of the methods of the class: a method each, and each loop of it. PRINTED by wip/gen/rules.py -/
abbrev k_Judge_judgeSorts_10 (B : Nat) (r : Nat) (d : Nat) (x1 : Int) (x2 : Int) (y3 : Option Value) (V : ax_V) (Φ : ax_V → Prop) (Θ : ax_V → Prop) : Prop := ax_R (az_W B (az_EJ B r)) ax_t d m_Judge_judgeSorts 10 [some (.ref r), some (ax_i x1), some (ax_i x2), y3] [] V (ax_Nr Φ) Θ
abbrev k_Judge_judgeSorts_60 (B : Nat) (r : Nat) (d : Nat) (x1 : Int) (x2 : Int) (y3 : Option Value) (V : ax_V) (Φ : ax_V → Prop) (Θ : ax_V → Prop) : Prop := ax_R (az_W B (az_EJ B r)) ax_t d m_Judge_judgeSorts 60 [some (.ref r), some (ax_i x1), some (ax_i x2), y3] [] V (ax_Nr Φ) Θ
abbrev k_Judge_judgeSorts_96 (B : Nat) (r : Nat) (d : Nat) (x1 : Int) (x2 : Int) (y3 : Option Value) (V : ax_V) (Φ : ax_V → Prop) (Θ : ax_V → Prop) : Prop := ax_R (az_W B (az_EJ B r)) ax_t d m_Judge_judgeSorts 96 [some (.ref r), some (ax_i x1), some (ax_i x2), y3] [] V (ax_Nr Φ) Θ
abbrev k_Judge_judgeSorts_121 (B : Nat) (r : Nat) (d : Nat) (x1 : Int) (x2 : Int) (x3 : Int) (V : ax_V) (Φ : ax_V → Prop) (Θ : ax_V → Prop) : Prop := ax_R (az_W B (az_EJ B r)) ax_t d m_Judge_judgeSorts 121 [some (.ref r), some (ax_i x1), some (ax_i x2), some (ax_i x3)] [] V (ax_Nr Φ) Θ
set_option maxRecDepth 20000 in
theorem r_Judge_judgeSorts_10 {B : Nat} {r : Nat} {d : Nat} {V : ax_V} {Φ : ax_V → Prop} {Θ : ax_V → Prop} {x1 : Int} {x2 : Int} {y3 : Option Value} (hg : ax_g V) (hx1 : ax_rg x1) (hx2 : ax_rg x2) (hy3 : ax_y y3) (h : (0 ≤ x1 + 1 ∧ x1 + 1 < 9) ∧ ((V 508 (x1 + 1) ≤ x2 → (0 ≤ x1 ∧ x1 < 9) ∧ k_Judge_judgeSorts_60 B r d x1 (V 509 x1) y3 V Φ Θ) ∧ (x2 < V 508 (x1 + 1) → ax_I (az_W B (az_EJ B r)) d q_Judge_sortOf [.ref r, ax_i x2] V (fun r1 V1 => (0 ≤ x2 ∧ x2 < 700) ∧ (∀ V2, V2 = ax_u V1 528 x2 r1 → ax_N (az_W B (az_EJ B r)) d q_Judge_judgePartSorts [.ref r, ax_i x2] V2 (fun V3 => k_Judge_judgeSorts_10 B r d x1 (x2 + 1) y3 V3 Φ Θ) Θ)) Θ))) : k_Judge_judgeSorts_10 B r d x1 x2 y3 V Φ Θ := by
  refine ax_mv 2 12 [some (.ref r), some (ax_i x1), some (ax_i x2), y3] [.ref r, ax_i x2] rfl ?_
  refine ax_gR (v := .ref B) (pc' := 15) ⟨_, rfl⟩ fl_3_15 (az_e 0 rfl) rfl rfl ?_
  refine ax_gR (v := .ref (B + 8)) (pc' := 18) ⟨_, rfl⟩ fl_3_149 (az_b 0 rfl) rfl rfl ?_
  refine ax_mv 2 20 [some (.ref r), some (ax_i x1), some (ax_i x2), y3] [ax_i 1, ax_i x1, .ref (B + 8), ax_i x2] rfl ?_
  refine ax_add (pc' := 21) ⟨_, rfl⟩ rfl ?_
  obtain ⟨o1, h⟩ := h
  refine ax_ild (n := 9) (pc' := 22) ⟨_, rfl⟩ (az_b 8 rfl) (by decide) o1 rfl ?_
  refine ax_if2 (p1 := 50) (p2 := 25) ⟨_, rfl⟩ (by decide) rfl hx2 (hg _ _) (fun hc => ?_) (fun hc => ?_)
  · have h := h.1 hc
    refine ax_mv 1 51 [some (.ref r), some (ax_i x1), some (ax_i x2), y3] [.ref r] rfl ?_
    refine ax_gR (v := .ref B) (pc' := 54) ⟨_, rfl⟩ fl_3_15 (az_e 0 rfl) rfl rfl ?_
    refine ax_gR (v := .ref (B + 9)) (pc' := 57) ⟨_, rfl⟩ fl_3_94 (az_b 0 rfl) rfl rfl ?_
    refine ax_mv 1 58 [some (.ref r), some (ax_i x1), some (ax_i x2), y3] [ax_i x1, .ref (B + 9)] rfl ?_
    obtain ⟨o2, h⟩ := h
    refine ax_ild (n := 9) (pc' := 59) ⟨_, rfl⟩ (az_b 9 rfl) (by decide) o2 rfl ?_
    refine ax_sti (i := 0) (k := 2) (n := 1) (pc' := 60) (L' := [some (.ref r), some (ax_i x1), some (ax_i (V 509 x1)), y3]) ⟨_, rfl⟩ rfl rfl rfl (Nat.le_of_ble_eq_true rfl) rfl rfl ?_
    exact h
  · have h := h.2 (Int.not_le.mp hc)
    refine ax_mv 1 26 [some (.ref r), some (ax_i x1), some (ax_i x2), y3] [.ref r] rfl ?_
    refine ax_gR (v := .ref (B + 16)) (pc' := 29) ⟨_, rfl⟩ fl_3_25 (az_e 0 rfl) rfl rfl ?_
    refine ax_gR (v := .ref (B + 28)) (pc' := 32) ⟨_, rfl⟩ fl_3_199 (az_b 16 rfl) rfl rfl ?_
    refine ax_mv 3 35 [some (.ref r), some (ax_i x1), some (ax_i x2), y3] [ax_i x2, .ref r, ax_i x2, .ref (B + 28)] rfl ?_
    refine ax_callI (pc' := 38) ⟨_, rfl⟩ ml_3_200 (rest := [ax_i x2, .ref (B + 28)]) rfl (fun ss hs => ⟨_, _, (az_e 0 rfl) ss hs⟩) (Nat.le_of_ble_eq_true rfl) rfl rfl h (fun r1 V1 hg1 hr1 h => ?_)
    obtain ⟨o3, h⟩ := h
    obtain ⟨V2, eV2⟩ : ∃ W9 : ax_V, W9 = ax_u V1 528 x2 r1 := ⟨_, rfl⟩
    have h := h V2 eV2
    have hg2 : ax_g V2 := eV2 ▸ ax_u_g hg1 hr1
    refine ax_ist (n := 700) (pc' := 39) ⟨_, rfl⟩ az_ok (az_b 28 rfl) (by decide) o3 eV2 rfl ?_
    refine ax_mv 2 41 [some (.ref r), some (ax_i x1), some (ax_i x2), y3] [ax_i x2, .ref r] rfl ?_
    refine ax_callN (pc' := 44) ⟨_, rfl⟩ ml_3_203 (rest := []) rfl (fun ss hs => ⟨_, _, (az_e 0 rfl) ss hs⟩) (Nat.le_of_ble_eq_true rfl) rfl rfl h (fun V3 hg3 h => ?_)
    refine ax_inc (x := x2) (pc' := 47) (L' := [some (.ref r), some (ax_i x1), some (ax_i (x2 + 1)), y3]) ⟨_, rfl⟩ rfl rfl rfl rfl ?_
    refine ax_mv 1 10 [some (.ref r), some (ax_i x1), some (ax_i (x2 + 1)), y3] [] rfl ?_
    exact h
set_option maxRecDepth 20000 in
theorem r_Judge_judgeSorts_60 {B : Nat} {r : Nat} {d : Nat} {V : ax_V} {Φ : ax_V → Prop} {Θ : ax_V → Prop} {x1 : Int} {x2 : Int} {y3 : Option Value} (hg : ax_g V) (hx1 : ax_rg x1) (hx2 : ax_rg x2) (hy3 : ax_y y3) (h : (0 ≤ x1 + 1 ∧ x1 + 1 < 9) ∧ ((V 509 (x1 + 1) ≤ x2 → (0 ≤ x1 ∧ x1 < 9) ∧ k_Judge_judgeSorts_96 B r d x1 (V 510 x1) y3 V Φ Θ) ∧ (x2 < V 509 (x1 + 1) → ax_N (az_W B (az_EJ B r)) d q_Judge_judgeEquationSorts [.ref r, ax_i x2] V (fun V1 => k_Judge_judgeSorts_60 B r d x1 (x2 + 1) y3 V1 Φ Θ) Θ))) : k_Judge_judgeSorts_60 B r d x1 x2 y3 V Φ Θ := by
  refine ax_mv 2 62 [some (.ref r), some (ax_i x1), some (ax_i x2), y3] [.ref r, ax_i x2] rfl ?_
  refine ax_gR (v := .ref B) (pc' := 65) ⟨_, rfl⟩ fl_3_15 (az_e 0 rfl) rfl rfl ?_
  refine ax_gR (v := .ref (B + 9)) (pc' := 68) ⟨_, rfl⟩ fl_3_94 (az_b 0 rfl) rfl rfl ?_
  refine ax_mv 2 70 [some (.ref r), some (ax_i x1), some (ax_i x2), y3] [ax_i 1, ax_i x1, .ref (B + 9), ax_i x2] rfl ?_
  refine ax_add (pc' := 71) ⟨_, rfl⟩ rfl ?_
  obtain ⟨o4, h⟩ := h
  refine ax_ild (n := 9) (pc' := 72) ⟨_, rfl⟩ (az_b 9 rfl) (by decide) o4 rfl ?_
  refine ax_if2 (p1 := 86) (p2 := 75) ⟨_, rfl⟩ (by decide) rfl hx2 (hg _ _) (fun hc => ?_) (fun hc => ?_)
  · have h := h.1 hc
    refine ax_mv 1 87 [some (.ref r), some (ax_i x1), some (ax_i x2), y3] [.ref r] rfl ?_
    refine ax_gR (v := .ref B) (pc' := 90) ⟨_, rfl⟩ fl_3_15 (az_e 0 rfl) rfl rfl ?_
    refine ax_gR (v := .ref (B + 10)) (pc' := 93) ⟨_, rfl⟩ fl_3_175 (az_b 0 rfl) rfl rfl ?_
    refine ax_mv 1 94 [some (.ref r), some (ax_i x1), some (ax_i x2), y3] [ax_i x1, .ref (B + 10)] rfl ?_
    obtain ⟨o5, h⟩ := h
    refine ax_ild (n := 9) (pc' := 95) ⟨_, rfl⟩ (az_b 10 rfl) (by decide) o5 rfl ?_
    refine ax_sti (i := 0) (k := 2) (n := 1) (pc' := 96) (L' := [some (.ref r), some (ax_i x1), some (ax_i (V 510 x1)), y3]) ⟨_, rfl⟩ rfl rfl rfl (Nat.le_of_ble_eq_true rfl) rfl rfl ?_
    exact h
  · have h := h.2 (Int.not_le.mp hc)
    refine ax_mv 2 77 [some (.ref r), some (ax_i x1), some (ax_i x2), y3] [ax_i x2, .ref r] rfl ?_
    refine ax_callN (pc' := 80) ⟨_, rfl⟩ ml_3_206 (rest := []) rfl (fun ss hs => ⟨_, _, (az_e 0 rfl) ss hs⟩) (Nat.le_of_ble_eq_true rfl) rfl rfl h (fun V1 hg1 h => ?_)
    refine ax_inc (x := x2) (pc' := 83) (L' := [some (.ref r), some (ax_i x1), some (ax_i (x2 + 1)), y3]) ⟨_, rfl⟩ rfl rfl rfl rfl ?_
    refine ax_mv 1 60 [some (.ref r), some (ax_i x1), some (ax_i (x2 + 1)), y3] [] rfl ?_
    exact h
set_option maxRecDepth 20000 in
theorem r_Judge_judgeSorts_96 {B : Nat} {r : Nat} {d : Nat} {V : ax_V} {Φ : ax_V → Prop} {Θ : ax_V → Prop} {x1 : Int} {x2 : Int} {y3 : Option Value} (hg : ax_g V) (hx1 : ax_rg x1) (hx2 : ax_rg x2) (hy3 : ax_y y3) (h : (0 ≤ x1 + 1 ∧ x1 + 1 < 9) ∧ ((V 510 (x1 + 1) ≤ x2 → Φ V) ∧ (x2 < V 510 (x1 + 1) → (0 ≤ x2 ∧ x2 < 351) ∧ k_Judge_judgeSorts_121 B r d x1 x2 (V 559 x2) V Φ Θ))) : k_Judge_judgeSorts_96 B r d x1 x2 y3 V Φ Θ := by
  refine ax_mv 2 98 [some (.ref r), some (ax_i x1), some (ax_i x2), y3] [.ref r, ax_i x2] rfl ?_
  refine ax_gR (v := .ref B) (pc' := 101) ⟨_, rfl⟩ fl_3_15 (az_e 0 rfl) rfl rfl ?_
  refine ax_gR (v := .ref (B + 10)) (pc' := 104) ⟨_, rfl⟩ fl_3_175 (az_b 0 rfl) rfl rfl ?_
  refine ax_mv 2 106 [some (.ref r), some (ax_i x1), some (ax_i x2), y3] [ax_i 1, ax_i x1, .ref (B + 10), ax_i x2] rfl ?_
  refine ax_add (pc' := 107) ⟨_, rfl⟩ rfl ?_
  obtain ⟨o6, h⟩ := h
  refine ax_ild (n := 9) (pc' := 108) ⟨_, rfl⟩ (az_b 10 rfl) (by decide) o6 rfl ?_
  refine ax_if2 (p1 := 162) (p2 := 111) ⟨_, rfl⟩ (by decide) rfl hx2 (hg _ _) (fun hc => ?_) (fun hc => ?_)
  · have h := h.1 hc
    exact ax_nret ⟨_, rfl⟩ rfl hg h
  · have h := h.2 (Int.not_le.mp hc)
    refine ax_mv 1 112 [some (.ref r), some (ax_i x1), some (ax_i x2), y3] [.ref r] rfl ?_
    refine ax_gR (v := .ref (B + 56)) (pc' := 115) ⟨_, rfl⟩ fl_3_40 (az_e 0 rfl) rfl rfl ?_
    refine ax_gR (v := .ref (B + 59)) (pc' := 118) ⟨_, rfl⟩ fl_3_184 (az_b 56 rfl) rfl rfl ?_
    refine ax_mv 1 119 [some (.ref r), some (ax_i x1), some (ax_i x2), y3] [ax_i x2, .ref (B + 59)] rfl ?_
    obtain ⟨o7, h⟩ := h
    refine ax_ild (n := 351) (pc' := 120) ⟨_, rfl⟩ (az_b 59 rfl) (by decide) o7 rfl ?_
    refine ax_sti (i := 0) (k := 3) (n := 1) (pc' := 121) (L' := [some (.ref r), some (ax_i x1), some (ax_i x2), some (ax_i (V 559 x2))]) ⟨_, rfl⟩ rfl rfl rfl (Nat.le_of_ble_eq_true rfl) rfl rfl ?_
    exact h
set_option maxRecDepth 20000 in
theorem r_Judge_judgeSorts_121 {B : Nat} {r : Nat} {d : Nat} {V : ax_V} {Φ : ax_V → Prop} {Θ : ax_V → Prop} {x1 : Int} {x2 : Int} {x3 : Int} (hg : ax_g V) (hx1 : ax_rg x1) (hx2 : ax_rg x2) (hx3 : ax_rg x3) (h : (0 ≤ x2 + 1 ∧ x2 + 1 < 351) ∧ ((V 559 (x2 + 1) ≤ x3 → k_Judge_judgeSorts_96 B r d x1 (x2 + 1) (some (ax_i x3)) V Φ Θ) ∧ (x3 < V 559 (x2 + 1) → (0 ≤ x3 ∧ x3 < 350) ∧ ax_N (az_W B (az_EJ B r)) d q_Judge_mustBe [.ref r, ax_i (V 571 x3), ax_i 1] V (fun V1 => k_Judge_judgeSorts_121 B r d x1 x2 (x3 + 1) V1 Φ Θ) Θ))) : k_Judge_judgeSorts_121 B r d x1 x2 x3 V Φ Θ := by
  refine ax_mv 2 123 [some (.ref r), some (ax_i x1), some (ax_i x2), some (ax_i x3)] [.ref r, ax_i x3] rfl ?_
  refine ax_gR (v := .ref (B + 56)) (pc' := 126) ⟨_, rfl⟩ fl_3_40 (az_e 0 rfl) rfl rfl ?_
  refine ax_gR (v := .ref (B + 59)) (pc' := 129) ⟨_, rfl⟩ fl_3_184 (az_b 56 rfl) rfl rfl ?_
  refine ax_mv 2 131 [some (.ref r), some (ax_i x1), some (ax_i x2), some (ax_i x3)] [ax_i 1, ax_i x2, .ref (B + 59), ax_i x3] rfl ?_
  refine ax_add (pc' := 132) ⟨_, rfl⟩ rfl ?_
  obtain ⟨o8, h⟩ := h
  refine ax_ild (n := 351) (pc' := 133) ⟨_, rfl⟩ (az_b 59 rfl) (by decide) o8 rfl ?_
  refine ax_if2 (p1 := 156) (p2 := 136) ⟨_, rfl⟩ (by decide) rfl hx3 (hg _ _) (fun hc => ?_) (fun hc => ?_)
  · have h := h.1 hc
    refine ax_inc (x := x2) (pc' := 159) (L' := [some (.ref r), some (ax_i x1), some (ax_i (x2 + 1)), some (ax_i x3)]) ⟨_, rfl⟩ rfl rfl rfl rfl ?_
    refine ax_mv 1 96 [some (.ref r), some (ax_i x1), some (ax_i (x2 + 1)), some (ax_i x3)] [] rfl ?_
    exact h
  · have h := h.2 (Int.not_le.mp hc)
    refine ax_mv 2 138 [some (.ref r), some (ax_i x1), some (ax_i x2), some (ax_i x3)] [.ref r, .ref r] rfl ?_
    refine ax_gR (v := .ref (B + 56)) (pc' := 141) ⟨_, rfl⟩ fl_3_40 (az_e 0 rfl) rfl rfl ?_
    refine ax_gR (v := .ref (B + 71)) (pc' := 144) ⟨_, rfl⟩ fl_3_209 (az_b 56 rfl) rfl rfl ?_
    refine ax_mv 1 145 [some (.ref r), some (ax_i x1), some (ax_i x2), some (ax_i x3)] [ax_i x3, .ref (B + 71), .ref r] rfl ?_
    obtain ⟨o9, h⟩ := h
    refine ax_ild (n := 350) (pc' := 146) ⟨_, rfl⟩ (az_b 71 rfl) (by decide) o9 rfl ?_
    refine ax_mv 1 147 [some (.ref r), some (ax_i x1), some (ax_i x2), some (ax_i x3)] [ax_i 1, ax_i (V 571 x3), .ref r] rfl ?_
    refine ax_callN (pc' := 150) ⟨_, rfl⟩ ml_3_212 (rest := []) rfl (fun ss hs => ⟨_, _, (az_e 0 rfl) ss hs⟩) (Nat.le_of_ble_eq_true rfl) rfl rfl h (fun V1 hg1 h => ?_)
    refine ax_inc (x := x3) (pc' := 153) (L' := [some (.ref r), some (ax_i x1), some (ax_i x2), some (ax_i (x3 + 1))]) ⟨_, rfl⟩ rfl rfl rfl rfl ?_
    refine ax_mv 1 121 [some (.ref r), some (ax_i x1), some (ax_i x2), some (ax_i (x3 + 1))] [] rfl ?_
    exact h
set_option maxRecDepth 20000 in
theorem r_Judge_judgeSorts {B : Nat} {r : Nat} {d : Nat} {V : ax_V} {Φ : ax_V → Prop} {Θ : ax_V → Prop} {x1 : Int} (hg : ax_g V) (hx1 : ax_rg x1) (h : (0 ≤ x1 ∧ x1 < 9) ∧ k_Judge_judgeSorts_10 B r d x1 (V 508 x1) none V Φ Θ) : ax_N (az_W B (az_EJ B r)) (d + 1) q_Judge_judgeSorts [.ref r, ax_i x1] V Φ Θ := by
  refine ax_T.of (M := m_Judge_judgeSorts) rfl (Nat.le_of_ble_eq_true rfl) ?_
  refine ax_mv 0 0 [some (.ref r), some (ax_i x1), none, none] [] rfl ?_
  refine ax_mv 1 1 [some (.ref r), some (ax_i x1), none, none] [.ref r] rfl ?_
  refine ax_gR (v := .ref B) (pc' := 4) ⟨_, rfl⟩ fl_3_15 (az_e 0 rfl) rfl rfl ?_
  refine ax_gR (v := .ref (B + 8)) (pc' := 7) ⟨_, rfl⟩ fl_3_149 (az_b 0 rfl) rfl rfl ?_
  refine ax_mv 1 8 [some (.ref r), some (ax_i x1), none, none] [ax_i x1, .ref (B + 8)] rfl ?_
  obtain ⟨o10, h⟩ := h
  refine ax_ild (n := 9) (pc' := 9) ⟨_, rfl⟩ (az_b 8 rfl) (by decide) o10 rfl ?_
  refine ax_sti (i := 0) (k := 2) (n := 1) (pc' := 10) (L' := [some (.ref r), some (ax_i x1), some (ax_i (V 508 x1)), none]) ⟨_, rfl⟩ rfl rfl rfl (Nat.le_of_ble_eq_true rfl) rfl rfl ?_
  exact h
set_option maxRecDepth 20000 in
theorem r_Judge_sortOf {B : Nat} {r : Nat} {d : Nat} {V : ax_V} {Φ : Int → ax_V → Prop} {Θ : ax_V → Prop} {x1 : Int} (hg : ax_g V) (hx1 : ax_rg x1) (h : (0 ≤ x1 ∧ x1 < 700) ∧ (0 ≤ x1 ∧ x1 < 700) ∧ ((V 517 x1 = 0 → Φ 0 V) ∧ (V 517 x1 = 2 → (0 ≤ x1 ∧ x1 < 700) ∧ (0 ≤ V 520 x1 ∧ V 520 x1 < 208) ∧ Φ (V 535 (V 520 x1)) V) ∧ (V 517 x1 = 3 → (0 ≤ x1 ∧ x1 < 700) ∧ (0 ≤ V 520 x1 ∧ V 520 x1 < 208) ∧ Φ (V 535 (V 520 x1)) V) ∧ (V 517 x1 = 4 → Φ 0 V) ∧ (V 517 x1 = 6 → (0 ≤ V 521 x1 ∧ V 521 x1 < 700) ∧ Φ (V 528 (V 521 x1)) V) ∧ (V 517 x1 = 13 → Φ 0 V) ∧ (V 517 x1 = 14 → Φ 0 V) ∧ (V 517 x1 = 15 → Φ 0 V) ∧ (V 517 x1 = 16 → Φ 0 V) ∧ (V 517 x1 = 17 → Φ 0 V) ∧ (V 517 x1 = 18 → (0 ≤ V 521 x1 ∧ V 521 x1 < 700) ∧ (0 ≤ V 522 (V 521 x1) ∧ V 522 (V 521 x1) < 700) ∧ Φ (V 528 (V 522 (V 521 x1))) V) ∧ (V 517 x1 = 19 → (0 ≤ V 521 x1 ∧ V 521 x1 < 700) ∧ Φ (V 528 (V 521 x1)) V) ∧ (V 517 x1 = 20 → (0 ≤ V 521 x1 ∧ V 521 x1 < 700) ∧ Φ (V 528 (V 521 x1)) V) ∧ (V 517 x1 = 21 → (0 ≤ V 521 x1 ∧ V 521 x1 < 700) ∧ Φ (V 528 (V 521 x1)) V) ∧ (V 517 x1 = 22 → ax_I (az_W B (az_EJ B r)) d q_Parts_isCall [.ref (B + 16), ax_i x1] V (fun r1 V1 => ((r1 = 0 → Φ 0 V1) ∧ (¬ r1 = 0 → (0 ≤ x1 ∧ x1 < 700) ∧ (0 ≤ (V1 520 x1) * 26 ∧ (V1 520 x1) * 26 < 208) ∧ (0 ≤ V1 507 ((V1 520 x1) * 26) ∧ V1 507 ((V1 520 x1) * 26) < 208) ∧ Φ (V1 535 (V1 507 ((V1 520 x1) * 26))) V1))) Θ) ∧ (¬ V 517 x1 = 0 → ¬ V 517 x1 = 2 → ¬ V 517 x1 = 3 → ¬ V 517 x1 = 4 → ¬ V 517 x1 = 6 → ¬ V 517 x1 = 13 → ¬ V 517 x1 = 14 → ¬ V 517 x1 = 15 → ¬ V 517 x1 = 16 → ¬ V 517 x1 = 17 → ¬ V 517 x1 = 18 → ¬ V 517 x1 = 19 → ¬ V 517 x1 = 20 → ¬ V 517 x1 = 21 → ¬ V 517 x1 = 22 → Φ 1 V))) : ax_I (az_W B (az_EJ B r)) (d + 1) q_Judge_sortOf [.ref r, ax_i x1] V Φ Θ := by
  refine ax_T.of (M := m_Judge_sortOf) rfl (Nat.le_of_ble_eq_true rfl) ?_
  refine ax_mv 0 0 [some (.ref r), some (ax_i x1), none] [] rfl ?_
  refine ax_mv 1 1 [some (.ref r), some (ax_i x1), none] [.ref r] rfl ?_
  refine ax_gR (v := .ref (B + 16)) (pc' := 4) ⟨_, rfl⟩ fl_3_25 (az_e 0 rfl) rfl rfl ?_
  refine ax_gR (v := .ref (B + 21)) (pc' := 7) ⟨_, rfl⟩ fl_3_215 (az_b 16 rfl) rfl rfl ?_
  refine ax_mv 1 8 [some (.ref r), some (ax_i x1), none] [ax_i x1, .ref (B + 21)] rfl ?_
  obtain ⟨o1, h⟩ := h
  refine ax_ild (n := 700) (pc' := 9) ⟨_, rfl⟩ (az_b 21 rfl) (by decide) o1 rfl ?_
  refine ax_sti (i := 0) (k := 2) (n := 1) (pc' := 10) (L' := [some (.ref r), some (ax_i x1), some (ax_i (V 521 x1))]) ⟨_, rfl⟩ rfl rfl rfl (Nat.le_of_ble_eq_true rfl) rfl rfl ?_
  refine ax_mv 1 11 [some (.ref r), some (ax_i x1), some (ax_i (V 521 x1))] [.ref r] rfl ?_
  refine ax_gR (v := .ref (B + 16)) (pc' := 14) ⟨_, rfl⟩ fl_3_25 (az_e 0 rfl) rfl rfl ?_
  refine ax_gR (v := .ref (B + 17)) (pc' := 17) ⟨_, rfl⟩ fl_3_158 (az_b 16 rfl) rfl rfl ?_
  refine ax_mv 1 18 [some (.ref r), some (ax_i x1), some (ax_i (V 521 x1))] [ax_i x1, .ref (B + 17)] rfl ?_
  obtain ⟨o2, h⟩ := h
  refine ax_ild (n := 700) (pc' := 19) ⟨_, rfl⟩ (az_b 17 rfl) (by decide) o2 rfl ?_
  have t0 : (V 517 x1 = 0) → ax_R (az_W B (az_EJ B r)) ax_t d m_Judge_sortOf 262 [some (.ref r), some (ax_i x1), some (ax_i (V 521 x1))] [] V (ax_Ir Φ) Θ := fun hk => by
    have h := h.1 hk
    refine ax_mv 1 263 [some (.ref r), some (ax_i x1), some (ax_i (V 521 x1))] [ax_i 0] rfl ?_
    exact ax_iret ⟨_, rfl⟩ rfl rfl (by decide) hg h
  have t1 : (V 517 x1 = 2) → ax_R (az_W B (az_EJ B r)) ax_t d m_Judge_sortOf 124 [some (.ref r), some (ax_i x1), some (ax_i (V 521 x1))] [] V (ax_Ir Φ) Θ := fun hk => by
    have h := h.2.1 hk
    refine ax_mv 1 125 [some (.ref r), some (ax_i x1), some (ax_i (V 521 x1))] [.ref r] rfl ?_
    refine ax_gR (v := .ref (B + 32)) (pc' := 128) ⟨_, rfl⟩ fl_3_30 (az_e 0 rfl) rfl rfl ?_
    refine ax_gR (v := .ref (B + 35)) (pc' := 131) ⟨_, rfl⟩ fl_3_91 (az_b 32 rfl) rfl rfl ?_
    refine ax_mv 1 132 [some (.ref r), some (ax_i x1), some (ax_i (V 521 x1))] [.ref r, .ref (B + 35)] rfl ?_
    refine ax_gR (v := .ref (B + 16)) (pc' := 135) ⟨_, rfl⟩ fl_3_25 (az_e 0 rfl) rfl rfl ?_
    refine ax_gR (v := .ref (B + 20)) (pc' := 138) ⟨_, rfl⟩ fl_3_152 (az_b 16 rfl) rfl rfl ?_
    refine ax_mv 1 139 [some (.ref r), some (ax_i x1), some (ax_i (V 521 x1))] [ax_i x1, .ref (B + 20), .ref (B + 35)] rfl ?_
    obtain ⟨o3, h⟩ := h
    refine ax_ild (n := 700) (pc' := 140) ⟨_, rfl⟩ (az_b 20 rfl) (by decide) o3 rfl ?_
    obtain ⟨o4, h⟩ := h
    refine ax_ild (n := 208) (pc' := 141) ⟨_, rfl⟩ (az_b 35 rfl) (by decide) o4 rfl ?_
    exact ax_iret ⟨_, rfl⟩ rfl rfl (hg _ _) hg h
  have t2 : (V 517 x1 = 3) → ax_R (az_W B (az_EJ B r)) ax_t d m_Judge_sortOf 142 [some (.ref r), some (ax_i x1), some (ax_i (V 521 x1))] [] V (ax_Ir Φ) Θ := fun hk => by
    have h := h.2.2.1 hk
    refine ax_mv 1 143 [some (.ref r), some (ax_i x1), some (ax_i (V 521 x1))] [.ref r] rfl ?_
    refine ax_gR (v := .ref (B + 32)) (pc' := 146) ⟨_, rfl⟩ fl_3_30 (az_e 0 rfl) rfl rfl ?_
    refine ax_gR (v := .ref (B + 35)) (pc' := 149) ⟨_, rfl⟩ fl_3_91 (az_b 32 rfl) rfl rfl ?_
    refine ax_mv 1 150 [some (.ref r), some (ax_i x1), some (ax_i (V 521 x1))] [.ref r, .ref (B + 35)] rfl ?_
    refine ax_gR (v := .ref (B + 16)) (pc' := 153) ⟨_, rfl⟩ fl_3_25 (az_e 0 rfl) rfl rfl ?_
    refine ax_gR (v := .ref (B + 20)) (pc' := 156) ⟨_, rfl⟩ fl_3_152 (az_b 16 rfl) rfl rfl ?_
    refine ax_mv 1 157 [some (.ref r), some (ax_i x1), some (ax_i (V 521 x1))] [ax_i x1, .ref (B + 20), .ref (B + 35)] rfl ?_
    obtain ⟨o5, h⟩ := h
    refine ax_ild (n := 700) (pc' := 158) ⟨_, rfl⟩ (az_b 20 rfl) (by decide) o5 rfl ?_
    obtain ⟨o6, h⟩ := h
    refine ax_ild (n := 208) (pc' := 159) ⟨_, rfl⟩ (az_b 35 rfl) (by decide) o6 rfl ?_
    exact ax_iret ⟨_, rfl⟩ rfl rfl (hg _ _) hg h
  have t3 : (V 517 x1 = 4) → ax_R (az_W B (az_EJ B r)) ax_t d m_Judge_sortOf 264 [some (.ref r), some (ax_i x1), some (ax_i (V 521 x1))] [] V (ax_Ir Φ) Θ := fun hk => by
    have h := h.2.2.2.1 hk
    refine ax_mv 1 265 [some (.ref r), some (ax_i x1), some (ax_i (V 521 x1))] [ax_i 0] rfl ?_
    exact ax_iret ⟨_, rfl⟩ rfl rfl (by decide) hg h
  have t4 : (V 517 x1 = 6) → ax_R (az_W B (az_EJ B r)) ax_t d m_Judge_sortOf 222 [some (.ref r), some (ax_i x1), some (ax_i (V 521 x1))] [] V (ax_Ir Φ) Θ := fun hk => by
    have h := h.2.2.2.2.1 hk
    refine ax_mv 1 223 [some (.ref r), some (ax_i x1), some (ax_i (V 521 x1))] [.ref r] rfl ?_
    refine ax_gR (v := .ref (B + 16)) (pc' := 226) ⟨_, rfl⟩ fl_3_25 (az_e 0 rfl) rfl rfl ?_
    refine ax_gR (v := .ref (B + 28)) (pc' := 229) ⟨_, rfl⟩ fl_3_199 (az_b 16 rfl) rfl rfl ?_
    refine ax_mv 1 230 [some (.ref r), some (ax_i x1), some (ax_i (V 521 x1))] [ax_i (V 521 x1), .ref (B + 28)] rfl ?_
    obtain ⟨o7, h⟩ := h
    refine ax_ild (n := 700) (pc' := 231) ⟨_, rfl⟩ (az_b 28 rfl) (by decide) o7 rfl ?_
    exact ax_iret ⟨_, rfl⟩ rfl rfl (hg _ _) hg h
  have t5 : (V 517 x1 = 13) → ax_R (az_W B (az_EJ B r)) ax_t d m_Judge_sortOf 266 [some (.ref r), some (ax_i x1), some (ax_i (V 521 x1))] [] V (ax_Ir Φ) Θ := fun hk => by
    have h := h.2.2.2.2.2.1 hk
    refine ax_mv 1 267 [some (.ref r), some (ax_i x1), some (ax_i (V 521 x1))] [ax_i 0] rfl ?_
    exact ax_iret ⟨_, rfl⟩ rfl rfl (by decide) hg h
  have t6 : (V 517 x1 = 14) → ax_R (az_W B (az_EJ B r)) ax_t d m_Judge_sortOf 268 [some (.ref r), some (ax_i x1), some (ax_i (V 521 x1))] [] V (ax_Ir Φ) Θ := fun hk => by
    have h := h.2.2.2.2.2.2.1 hk
    refine ax_mv 1 269 [some (.ref r), some (ax_i x1), some (ax_i (V 521 x1))] [ax_i 0] rfl ?_
    exact ax_iret ⟨_, rfl⟩ rfl rfl (by decide) hg h
  have t7 : (V 517 x1 = 15) → ax_R (az_W B (az_EJ B r)) ax_t d m_Judge_sortOf 270 [some (.ref r), some (ax_i x1), some (ax_i (V 521 x1))] [] V (ax_Ir Φ) Θ := fun hk => by
    have h := h.2.2.2.2.2.2.2.1 hk
    refine ax_mv 1 271 [some (.ref r), some (ax_i x1), some (ax_i (V 521 x1))] [ax_i 0] rfl ?_
    exact ax_iret ⟨_, rfl⟩ rfl rfl (by decide) hg h
  have t8 : (V 517 x1 = 16) → ax_R (az_W B (az_EJ B r)) ax_t d m_Judge_sortOf 272 [some (.ref r), some (ax_i x1), some (ax_i (V 521 x1))] [] V (ax_Ir Φ) Θ := fun hk => by
    have h := h.2.2.2.2.2.2.2.2.1 hk
    refine ax_mv 1 273 [some (.ref r), some (ax_i x1), some (ax_i (V 521 x1))] [ax_i 0] rfl ?_
    exact ax_iret ⟨_, rfl⟩ rfl rfl (by decide) hg h
  have t9 : (V 517 x1 = 17) → ax_R (az_W B (az_EJ B r)) ax_t d m_Judge_sortOf 274 [some (.ref r), some (ax_i x1), some (ax_i (V 521 x1))] [] V (ax_Ir Φ) Θ := fun hk => by
    have h := h.2.2.2.2.2.2.2.2.2.1 hk
    refine ax_mv 1 275 [some (.ref r), some (ax_i x1), some (ax_i (V 521 x1))] [ax_i 0] rfl ?_
    exact ax_iret ⟨_, rfl⟩ rfl rfl (by decide) hg h
  have t10 : (V 517 x1 = 18) → ax_R (az_W B (az_EJ B r)) ax_t d m_Judge_sortOf 204 [some (.ref r), some (ax_i x1), some (ax_i (V 521 x1))] [] V (ax_Ir Φ) Θ := fun hk => by
    have h := h.2.2.2.2.2.2.2.2.2.2.1 hk
    refine ax_mv 1 205 [some (.ref r), some (ax_i x1), some (ax_i (V 521 x1))] [.ref r] rfl ?_
    refine ax_gR (v := .ref (B + 16)) (pc' := 208) ⟨_, rfl⟩ fl_3_25 (az_e 0 rfl) rfl rfl ?_
    refine ax_gR (v := .ref (B + 28)) (pc' := 211) ⟨_, rfl⟩ fl_3_199 (az_b 16 rfl) rfl rfl ?_
    refine ax_mv 1 212 [some (.ref r), some (ax_i x1), some (ax_i (V 521 x1))] [.ref r, .ref (B + 28)] rfl ?_
    refine ax_gR (v := .ref (B + 16)) (pc' := 215) ⟨_, rfl⟩ fl_3_25 (az_e 0 rfl) rfl rfl ?_
    refine ax_gR (v := .ref (B + 22)) (pc' := 218) ⟨_, rfl⟩ fl_3_224 (az_b 16 rfl) rfl rfl ?_
    refine ax_mv 1 219 [some (.ref r), some (ax_i x1), some (ax_i (V 521 x1))] [ax_i (V 521 x1), .ref (B + 22), .ref (B + 28)] rfl ?_
    obtain ⟨o8, h⟩ := h
    refine ax_ild (n := 700) (pc' := 220) ⟨_, rfl⟩ (az_b 22 rfl) (by decide) o8 rfl ?_
    obtain ⟨o9, h⟩ := h
    refine ax_ild (n := 700) (pc' := 221) ⟨_, rfl⟩ (az_b 28 rfl) (by decide) o9 rfl ?_
    exact ax_iret ⟨_, rfl⟩ rfl rfl (hg _ _) hg h
  have t11 : (V 517 x1 = 19) → ax_R (az_W B (az_EJ B r)) ax_t d m_Judge_sortOf 232 [some (.ref r), some (ax_i x1), some (ax_i (V 521 x1))] [] V (ax_Ir Φ) Θ := fun hk => by
    have h := h.2.2.2.2.2.2.2.2.2.2.2.1 hk
    refine ax_mv 1 233 [some (.ref r), some (ax_i x1), some (ax_i (V 521 x1))] [.ref r] rfl ?_
    refine ax_gR (v := .ref (B + 16)) (pc' := 236) ⟨_, rfl⟩ fl_3_25 (az_e 0 rfl) rfl rfl ?_
    refine ax_gR (v := .ref (B + 28)) (pc' := 239) ⟨_, rfl⟩ fl_3_199 (az_b 16 rfl) rfl rfl ?_
    refine ax_mv 1 240 [some (.ref r), some (ax_i x1), some (ax_i (V 521 x1))] [ax_i (V 521 x1), .ref (B + 28)] rfl ?_
    obtain ⟨o10, h⟩ := h
    refine ax_ild (n := 700) (pc' := 241) ⟨_, rfl⟩ (az_b 28 rfl) (by decide) o10 rfl ?_
    exact ax_iret ⟨_, rfl⟩ rfl rfl (hg _ _) hg h
  have t12 : (V 517 x1 = 20) → ax_R (az_W B (az_EJ B r)) ax_t d m_Judge_sortOf 242 [some (.ref r), some (ax_i x1), some (ax_i (V 521 x1))] [] V (ax_Ir Φ) Θ := fun hk => by
    have h := h.2.2.2.2.2.2.2.2.2.2.2.2.1 hk
    refine ax_mv 1 243 [some (.ref r), some (ax_i x1), some (ax_i (V 521 x1))] [.ref r] rfl ?_
    refine ax_gR (v := .ref (B + 16)) (pc' := 246) ⟨_, rfl⟩ fl_3_25 (az_e 0 rfl) rfl rfl ?_
    refine ax_gR (v := .ref (B + 28)) (pc' := 249) ⟨_, rfl⟩ fl_3_199 (az_b 16 rfl) rfl rfl ?_
    refine ax_mv 1 250 [some (.ref r), some (ax_i x1), some (ax_i (V 521 x1))] [ax_i (V 521 x1), .ref (B + 28)] rfl ?_
    obtain ⟨o11, h⟩ := h
    refine ax_ild (n := 700) (pc' := 251) ⟨_, rfl⟩ (az_b 28 rfl) (by decide) o11 rfl ?_
    exact ax_iret ⟨_, rfl⟩ rfl rfl (hg _ _) hg h
  have t13 : (V 517 x1 = 21) → ax_R (az_W B (az_EJ B r)) ax_t d m_Judge_sortOf 252 [some (.ref r), some (ax_i x1), some (ax_i (V 521 x1))] [] V (ax_Ir Φ) Θ := fun hk => by
    have h := h.2.2.2.2.2.2.2.2.2.2.2.2.2.1 hk
    refine ax_mv 1 253 [some (.ref r), some (ax_i x1), some (ax_i (V 521 x1))] [.ref r] rfl ?_
    refine ax_gR (v := .ref (B + 16)) (pc' := 256) ⟨_, rfl⟩ fl_3_25 (az_e 0 rfl) rfl rfl ?_
    refine ax_gR (v := .ref (B + 28)) (pc' := 259) ⟨_, rfl⟩ fl_3_199 (az_b 16 rfl) rfl rfl ?_
    refine ax_mv 1 260 [some (.ref r), some (ax_i x1), some (ax_i (V 521 x1))] [ax_i (V 521 x1), .ref (B + 28)] rfl ?_
    obtain ⟨o12, h⟩ := h
    refine ax_ild (n := 700) (pc' := 261) ⟨_, rfl⟩ (az_b 28 rfl) (by decide) o12 rfl ?_
    exact ax_iret ⟨_, rfl⟩ rfl rfl (hg _ _) hg h
  have t14 : (V 517 x1 = 22) → ax_R (az_W B (az_EJ B r)) ax_t d m_Judge_sortOf 160 [some (.ref r), some (ax_i x1), some (ax_i (V 521 x1))] [] V (ax_Ir Φ) Θ := fun hk => by
    have h := h.2.2.2.2.2.2.2.2.2.2.2.2.2.2.1 hk
    refine ax_mv 1 161 [some (.ref r), some (ax_i x1), some (ax_i (V 521 x1))] [.ref r] rfl ?_
    refine ax_gR (v := .ref (B + 16)) (pc' := 164) ⟨_, rfl⟩ fl_3_25 (az_e 0 rfl) rfl rfl ?_
    refine ax_mv 1 165 [some (.ref r), some (ax_i x1), some (ax_i (V 521 x1))] [ax_i x1, .ref (B + 16)] rfl ?_
    refine ax_callI (pc' := 168) ⟨_, rfl⟩ ml_3_218 (rest := []) rfl (fun ss hs => ⟨_, _, (az_b 16 rfl) ss hs⟩) (Nat.le_of_ble_eq_true rfl) rfl rfl h (fun r1 V1 hg1 hr1 h => ?_)
    refine ax_if (p1 := 202) (p2 := 171) ⟨_, rfl⟩ (by decide) rfl hr1 (fun hc => ?_) (fun hc => ?_)
    · have h := h.1 hc
      refine ax_mv 1 203 [some (.ref r), some (ax_i x1), some (ax_i (V 521 x1))] [ax_i 0] rfl ?_
      exact ax_iret ⟨_, rfl⟩ rfl rfl (by decide) hg1 h
    · have h := h.2 hc
      refine ax_mv 1 172 [some (.ref r), some (ax_i x1), some (ax_i (V 521 x1))] [.ref r] rfl ?_
      refine ax_gR (v := .ref (B + 32)) (pc' := 175) ⟨_, rfl⟩ fl_3_30 (az_e 0 rfl) rfl rfl ?_
      refine ax_gR (v := .ref (B + 35)) (pc' := 178) ⟨_, rfl⟩ fl_3_91 (az_b 32 rfl) rfl rfl ?_
      refine ax_mv 1 179 [some (.ref r), some (ax_i x1), some (ax_i (V 521 x1))] [.ref r, .ref (B + 35)] rfl ?_
      refine ax_gR (v := .ref B) (pc' := 182) ⟨_, rfl⟩ fl_3_15 (az_e 0 rfl) rfl rfl ?_
      refine ax_gR (v := .ref (B + 7)) (pc' := 185) ⟨_, rfl⟩ fl_3_221 (az_b 0 rfl) rfl rfl ?_
      refine ax_mv 1 186 [some (.ref r), some (ax_i x1), some (ax_i (V 521 x1))] [.ref r, .ref (B + 7), .ref (B + 35)] rfl ?_
      refine ax_gR (v := .ref (B + 16)) (pc' := 189) ⟨_, rfl⟩ fl_3_25 (az_e 0 rfl) rfl rfl ?_
      refine ax_gR (v := .ref (B + 20)) (pc' := 192) ⟨_, rfl⟩ fl_3_152 (az_b 16 rfl) rfl rfl ?_
      refine ax_mv 1 193 [some (.ref r), some (ax_i x1), some (ax_i (V 521 x1))] [ax_i x1, .ref (B + 20), .ref (B + 7), .ref (B + 35)] rfl ?_
      obtain ⟨o13, h⟩ := h
      refine ax_ild (n := 700) (pc' := 194) ⟨_, rfl⟩ (az_b 20 rfl) (by decide) o13 rfl ?_
      refine ax_bip (pc' := 196) ⟨_, rfl⟩ (by decide) rfl ?_
      refine ax_mul (pc' := 197) ⟨_, rfl⟩ rfl ?_
      obtain ⟨o14, h⟩ := h
      refine ax_ild (n := 208) (pc' := 198) ⟨_, rfl⟩ (az_b 7 rfl) (by decide) o14 rfl ?_
      obtain ⟨o15, h⟩ := h
      refine ax_ild (n := 208) (pc' := 199) ⟨_, rfl⟩ (az_b 35 rfl) (by decide) o15 rfl ?_
      refine ax_mv 1 203 [some (.ref r), some (ax_i x1), some (ax_i (V 521 x1))] [ax_i (V1 535 (V1 507 ((V1 520 x1) * 26)))] rfl ?_
      exact ax_iret ⟨_, rfl⟩ rfl rfl (hg1 _ _) hg1 h
  have tD : ¬ V 517 x1 = 0 → ¬ V 517 x1 = 2 → ¬ V 517 x1 = 3 → ¬ V 517 x1 = 4 → ¬ V 517 x1 = 6 → ¬ V 517 x1 = 13 → ¬ V 517 x1 = 14 → ¬ V 517 x1 = 15 → ¬ V 517 x1 = 16 → ¬ V 517 x1 = 17 → ¬ V 517 x1 = 18 → ¬ V 517 x1 = 19 → ¬ V 517 x1 = 20 → ¬ V 517 x1 = 21 → ¬ V 517 x1 = 22 → ax_R (az_W B (az_EJ B r)) ax_t d m_Judge_sortOf 276 [some (.ref r), some (ax_i x1), some (ax_i (V 521 x1))] [] V (ax_Ir Φ) Θ := fun n0 n1 n2 n3 n4 n5 n6 n7 n8 n9 n10 n11 n12 n13 n14 => by
    have h := h.2.2.2.2.2.2.2.2.2.2.2.2.2.2.2 n0 n1 n2 n3 n4 n5 n6 n7 n8 n9 n10 n11 n12 n13 n14
    refine ax_mv 1 277 [some (.ref r), some (ax_i x1), some (ax_i (V 521 x1))] [ax_i 1] rfl ?_
    exact ax_iret ⟨_, rfl⟩ rfl rfl (by decide) hg h
  by_cases e0 : V 517 x1 = 0
  · exact ax_tsC (off := 243) (p1 := 262) ⟨_, rfl⟩ (hg _ _) (by omega) (by omega) (by rw [e0]; rfl) (by decide) (t0 (e0))
  by_cases e1 : V 517 x1 = 1
  · exact ax_tsC (off := 257) (p1 := 276) ⟨_, rfl⟩ (hg _ _) (by omega) (by omega) (by rw [e1]; rfl) (by decide) (tD (by omega) (by omega) (by omega) (by omega) (by omega) (by omega) (by omega) (by omega) (by omega) (by omega) (by omega) (by omega) (by omega) (by omega) (by omega))
  by_cases e2 : V 517 x1 = 2
  · exact ax_tsC (off := 105) (p1 := 124) ⟨_, rfl⟩ (hg _ _) (by omega) (by omega) (by rw [e2]; rfl) (by decide) (t1 (e2))
  by_cases e3 : V 517 x1 = 3
  · exact ax_tsC (off := 123) (p1 := 142) ⟨_, rfl⟩ (hg _ _) (by omega) (by omega) (by rw [e3]; rfl) (by decide) (t2 (e3))
  by_cases e4 : V 517 x1 = 4
  · exact ax_tsC (off := 245) (p1 := 264) ⟨_, rfl⟩ (hg _ _) (by omega) (by omega) (by rw [e4]; rfl) (by decide) (t3 (e4))
  by_cases e5 : V 517 x1 = 5
  · exact ax_tsC (off := 257) (p1 := 276) ⟨_, rfl⟩ (hg _ _) (by omega) (by omega) (by rw [e5]; rfl) (by decide) (tD (by omega) (by omega) (by omega) (by omega) (by omega) (by omega) (by omega) (by omega) (by omega) (by omega) (by omega) (by omega) (by omega) (by omega) (by omega))
  by_cases e6 : V 517 x1 = 6
  · exact ax_tsC (off := 203) (p1 := 222) ⟨_, rfl⟩ (hg _ _) (by omega) (by omega) (by rw [e6]; rfl) (by decide) (t4 (e6))
  by_cases e7 : V 517 x1 = 7
  · exact ax_tsC (off := 257) (p1 := 276) ⟨_, rfl⟩ (hg _ _) (by omega) (by omega) (by rw [e7]; rfl) (by decide) (tD (by omega) (by omega) (by omega) (by omega) (by omega) (by omega) (by omega) (by omega) (by omega) (by omega) (by omega) (by omega) (by omega) (by omega) (by omega))
  by_cases e8 : V 517 x1 = 8
  · exact ax_tsC (off := 257) (p1 := 276) ⟨_, rfl⟩ (hg _ _) (by omega) (by omega) (by rw [e8]; rfl) (by decide) (tD (by omega) (by omega) (by omega) (by omega) (by omega) (by omega) (by omega) (by omega) (by omega) (by omega) (by omega) (by omega) (by omega) (by omega) (by omega))
  by_cases e9 : V 517 x1 = 9
  · exact ax_tsC (off := 257) (p1 := 276) ⟨_, rfl⟩ (hg _ _) (by omega) (by omega) (by rw [e9]; rfl) (by decide) (tD (by omega) (by omega) (by omega) (by omega) (by omega) (by omega) (by omega) (by omega) (by omega) (by omega) (by omega) (by omega) (by omega) (by omega) (by omega))
  by_cases e10 : V 517 x1 = 10
  · exact ax_tsC (off := 257) (p1 := 276) ⟨_, rfl⟩ (hg _ _) (by omega) (by omega) (by rw [e10]; rfl) (by decide) (tD (by omega) (by omega) (by omega) (by omega) (by omega) (by omega) (by omega) (by omega) (by omega) (by omega) (by omega) (by omega) (by omega) (by omega) (by omega))
  by_cases e11 : V 517 x1 = 11
  · exact ax_tsC (off := 257) (p1 := 276) ⟨_, rfl⟩ (hg _ _) (by omega) (by omega) (by rw [e11]; rfl) (by decide) (tD (by omega) (by omega) (by omega) (by omega) (by omega) (by omega) (by omega) (by omega) (by omega) (by omega) (by omega) (by omega) (by omega) (by omega) (by omega))
  by_cases e12 : V 517 x1 = 12
  · exact ax_tsC (off := 257) (p1 := 276) ⟨_, rfl⟩ (hg _ _) (by omega) (by omega) (by rw [e12]; rfl) (by decide) (tD (by omega) (by omega) (by omega) (by omega) (by omega) (by omega) (by omega) (by omega) (by omega) (by omega) (by omega) (by omega) (by omega) (by omega) (by omega))
  by_cases e13 : V 517 x1 = 13
  · exact ax_tsC (off := 247) (p1 := 266) ⟨_, rfl⟩ (hg _ _) (by omega) (by omega) (by rw [e13]; rfl) (by decide) (t5 (e13))
  by_cases e14 : V 517 x1 = 14
  · exact ax_tsC (off := 249) (p1 := 268) ⟨_, rfl⟩ (hg _ _) (by omega) (by omega) (by rw [e14]; rfl) (by decide) (t6 (e14))
  by_cases e15 : V 517 x1 = 15
  · exact ax_tsC (off := 251) (p1 := 270) ⟨_, rfl⟩ (hg _ _) (by omega) (by omega) (by rw [e15]; rfl) (by decide) (t7 (e15))
  by_cases e16 : V 517 x1 = 16
  · exact ax_tsC (off := 253) (p1 := 272) ⟨_, rfl⟩ (hg _ _) (by omega) (by omega) (by rw [e16]; rfl) (by decide) (t8 (e16))
  by_cases e17 : V 517 x1 = 17
  · exact ax_tsC (off := 255) (p1 := 274) ⟨_, rfl⟩ (hg _ _) (by omega) (by omega) (by rw [e17]; rfl) (by decide) (t9 (e17))
  by_cases e18 : V 517 x1 = 18
  · exact ax_tsC (off := 185) (p1 := 204) ⟨_, rfl⟩ (hg _ _) (by omega) (by omega) (by rw [e18]; rfl) (by decide) (t10 (e18))
  by_cases e19 : V 517 x1 = 19
  · exact ax_tsC (off := 213) (p1 := 232) ⟨_, rfl⟩ (hg _ _) (by omega) (by omega) (by rw [e19]; rfl) (by decide) (t11 (e19))
  by_cases e20 : V 517 x1 = 20
  · exact ax_tsC (off := 223) (p1 := 242) ⟨_, rfl⟩ (hg _ _) (by omega) (by omega) (by rw [e20]; rfl) (by decide) (t12 (e20))
  by_cases e21 : V 517 x1 = 21
  · exact ax_tsC (off := 233) (p1 := 252) ⟨_, rfl⟩ (hg _ _) (by omega) (by omega) (by rw [e21]; rfl) (by decide) (t13 (e21))
  by_cases e22 : V 517 x1 = 22
  · exact ax_tsC (off := 141) (p1 := 160) ⟨_, rfl⟩ (hg _ _) (by omega) (by omega) (by rw [e22]; rfl) (by decide) (t14 (e22))
  exact ax_tsD (p1 := 276) ⟨_, rfl⟩ (hg _ _) (by omega) (by decide) (tD e0 e2 e3 e4 e6 e13 e14 e15 e16 e17 e18 e19 e20 e21 e22)
abbrev k_Judge_judgePartSorts_27 (B : Nat) (r : Nat) (d : Nat) (x1 : Int) (x2 : Int) (y3 : Option Value) (s0 : Int) (V : ax_V) (Φ : ax_V → Prop) (Θ : ax_V → Prop) : Prop := ax_R (az_W B (az_EJ B r)) ax_t d m_Judge_judgePartSorts 27 [some (.ref r), some (ax_i x1), some (ax_i x2), y3] [ax_i s0] V (ax_Nr Φ) Θ
set_option maxRecDepth 20000 in
theorem r_Judge_judgePartSorts_27 {B : Nat} {r : Nat} {d : Nat} {V : ax_V} {Φ : ax_V → Prop} {Θ : ax_V → Prop} {x1 : Int} {x2 : Int} {y3 : Option Value} {s0 : Int} (hg : ax_g V) (hx1 : ax_rg x1) (hx2 : ax_rg x2) (hy3 : ax_y y3) (hs0 : ax_rg s0) (h : (0 ≤ x1 ∧ x1 < 700) ∧ (((V 517 x1 = 0 ∨ V 517 x1 = 1 ∨ V 517 x1 = 2 ∨ V 517 x1 = 3 ∨ V 517 x1 = 6 ∨ V 517 x1 = 20) → Φ V) ∧ ((V 517 x1 = 5 ∨ V 517 x1 = 7 ∨ V 517 x1 = 8) → ax_N (az_W B (az_EJ B r)) d q_Judge_mustBe [.ref r, ax_i x2, ax_i 1] V (fun V1 => ax_N (az_W B (az_EJ B r)) d q_Judge_mustBe [.ref r, ax_i s0, ax_i 1] V1 (fun V2 => Φ V2) Θ) Θ) ∧ ((V 517 x1 = 9 ∨ V 517 x1 = 10 ∨ V 517 x1 = 19 ∨ V 517 x1 = 21) → (0 ≤ x2 ∧ x2 < 700) ∧ ax_N (az_W B (az_EJ B r)) d q_Judge_mustBe [.ref r, ax_i s0, ax_i (V 528 x2)] V (fun V3 => Φ V3) Θ) ∧ (V 517 x1 = 18 → ax_N (az_W B (az_EJ B r)) d q_Judge_mustBe [.ref r, ax_i x2, ax_i 1] V (fun V4 => (0 ≤ s0 ∧ s0 < 700) ∧ (0 ≤ s0 ∧ s0 < 700) ∧ ax_N (az_W B (az_EJ B r)) d q_Judge_mustBe [.ref r, ax_i (V4 522 s0), ax_i (V4 528 s0)] V4 (fun V5 => Φ V5) Θ) Θ) ∧ (V 517 x1 = 22 → ax_N (az_W B (az_EJ B r)) d q_Judge_judgeCallSorts [.ref r, ax_i x1] V (fun V6 => Φ V6) Θ) ∧ (¬ V 517 x1 = 0 → ¬ V 517 x1 = 1 → ¬ V 517 x1 = 2 → ¬ V 517 x1 = 3 → ¬ V 517 x1 = 6 → ¬ V 517 x1 = 20 → ¬ V 517 x1 = 5 → ¬ V 517 x1 = 7 → ¬ V 517 x1 = 8 → ¬ V 517 x1 = 9 → ¬ V 517 x1 = 10 → ¬ V 517 x1 = 19 → ¬ V 517 x1 = 21 → ¬ V 517 x1 = 18 → ¬ V 517 x1 = 22 → ax_N (az_W B (az_EJ B r)) d q_Judge_mustBe [.ref r, ax_i x2, ax_i 0] V (fun V7 => ax_N (az_W B (az_EJ B r)) d q_Judge_mustBe [.ref r, ax_i s0, ax_i 0] V7 (fun V8 => Φ V8) Θ) Θ))) : k_Judge_judgePartSorts_27 B r d x1 x2 y3 s0 V Φ Θ := by
  refine ax_sti (i := 0) (k := 3) (n := 1) (pc' := 28) (L' := [some (.ref r), some (ax_i x1), some (ax_i x2), some (ax_i s0)]) ⟨_, rfl⟩ rfl rfl rfl (Nat.le_of_ble_eq_true rfl) rfl rfl ?_
  refine ax_mv 1 29 [some (.ref r), some (ax_i x1), some (ax_i x2), some (ax_i s0)] [.ref r] rfl ?_
  refine ax_gR (v := .ref (B + 16)) (pc' := 32) ⟨_, rfl⟩ fl_3_25 (az_e 0 rfl) rfl rfl ?_
  refine ax_gR (v := .ref (B + 17)) (pc' := 35) ⟨_, rfl⟩ fl_3_158 (az_b 16 rfl) rfl rfl ?_
  refine ax_mv 1 36 [some (.ref r), some (ax_i x1), some (ax_i x2), some (ax_i s0)] [ax_i x1, .ref (B + 17)] rfl ?_
  obtain ⟨o1, h⟩ := h
  refine ax_ild (n := 700) (pc' := 37) ⟨_, rfl⟩ (az_b 17 rfl) (by decide) o1 rfl ?_
  have t0 : (V 517 x1 = 0 ∨ V 517 x1 = 1 ∨ V 517 x1 = 2 ∨ V 517 x1 = 3 ∨ V 517 x1 = 6 ∨ V 517 x1 = 20) → ax_R (az_W B (az_EJ B r)) ax_t d m_Judge_judgePartSorts 144 [some (.ref r), some (ax_i x1), some (ax_i x2), some (ax_i s0)] [] V (ax_Nr Φ) Θ := fun hk => by
    have h := h.1 hk
    refine ax_mv 1 230 [some (.ref r), some (ax_i x1), some (ax_i x2), some (ax_i s0)] [] rfl ?_
    exact ax_nret ⟨_, rfl⟩ rfl hg h
  have t1 : (V 517 x1 = 5 ∨ V 517 x1 = 7 ∨ V 517 x1 = 8) → ax_R (az_W B (az_EJ B r)) ax_t d m_Judge_judgePartSorts 203 [some (.ref r), some (ax_i x1), some (ax_i x2), some (ax_i s0)] [] V (ax_Nr Φ) Θ := fun hk => by
    have h := h.2.1 hk
    refine ax_mv 3 206 [some (.ref r), some (ax_i x1), some (ax_i x2), some (ax_i s0)] [ax_i 1, ax_i x2, .ref r] rfl ?_
    refine ax_callN (pc' := 209) ⟨_, rfl⟩ ml_3_212 (rest := []) rfl (fun ss hs => ⟨_, _, (az_e 0 rfl) ss hs⟩) (Nat.le_of_ble_eq_true rfl) rfl rfl h (fun V1 hg1 h => ?_)
    refine ax_mv 3 212 [some (.ref r), some (ax_i x1), some (ax_i x2), some (ax_i s0)] [ax_i 1, ax_i s0, .ref r] rfl ?_
    refine ax_callN (pc' := 215) ⟨_, rfl⟩ ml_3_212 (rest := []) rfl (fun ss hs => ⟨_, _, (az_e 0 rfl) ss hs⟩) (Nat.le_of_ble_eq_true rfl) rfl rfl h (fun V2 hg2 h => ?_)
    refine ax_mv 1 230 [some (.ref r), some (ax_i x1), some (ax_i x2), some (ax_i s0)] [] rfl ?_
    exact ax_nret ⟨_, rfl⟩ rfl hg2 h
  have t2 : (V 517 x1 = 9 ∨ V 517 x1 = 10 ∨ V 517 x1 = 19 ∨ V 517 x1 = 21) → ax_R (az_W B (az_EJ B r)) ax_t d m_Judge_judgePartSorts 155 [some (.ref r), some (ax_i x1), some (ax_i x2), some (ax_i s0)] [] V (ax_Nr Φ) Θ := fun hk => by
    have h := h.2.2.1 hk
    refine ax_mv 3 158 [some (.ref r), some (ax_i x1), some (ax_i x2), some (ax_i s0)] [.ref r, ax_i s0, .ref r] rfl ?_
    refine ax_gR (v := .ref (B + 16)) (pc' := 161) ⟨_, rfl⟩ fl_3_25 (az_e 0 rfl) rfl rfl ?_
    refine ax_gR (v := .ref (B + 28)) (pc' := 164) ⟨_, rfl⟩ fl_3_199 (az_b 16 rfl) rfl rfl ?_
    refine ax_mv 1 165 [some (.ref r), some (ax_i x1), some (ax_i x2), some (ax_i s0)] [ax_i x2, .ref (B + 28), ax_i s0, .ref r] rfl ?_
    obtain ⟨o2, h⟩ := h
    refine ax_ild (n := 700) (pc' := 166) ⟨_, rfl⟩ (az_b 28 rfl) (by decide) o2 rfl ?_
    refine ax_callN (pc' := 169) ⟨_, rfl⟩ ml_3_212 (rest := []) rfl (fun ss hs => ⟨_, _, (az_e 0 rfl) ss hs⟩) (Nat.le_of_ble_eq_true rfl) rfl rfl h (fun V3 hg3 h => ?_)
    refine ax_mv 1 230 [some (.ref r), some (ax_i x1), some (ax_i x2), some (ax_i s0)] [] rfl ?_
    exact ax_nret ⟨_, rfl⟩ rfl hg3 h
  have t3 : (V 517 x1 = 18) → ax_R (az_W B (az_EJ B r)) ax_t d m_Judge_judgePartSorts 172 [some (.ref r), some (ax_i x1), some (ax_i x2), some (ax_i s0)] [] V (ax_Nr Φ) Θ := fun hk => by
    have h := h.2.2.2.1 hk
    refine ax_mv 3 175 [some (.ref r), some (ax_i x1), some (ax_i x2), some (ax_i s0)] [ax_i 1, ax_i x2, .ref r] rfl ?_
    refine ax_callN (pc' := 178) ⟨_, rfl⟩ ml_3_212 (rest := []) rfl (fun ss hs => ⟨_, _, (az_e 0 rfl) ss hs⟩) (Nat.le_of_ble_eq_true rfl) rfl rfl h (fun V4 hg4 h => ?_)
    refine ax_mv 2 180 [some (.ref r), some (ax_i x1), some (ax_i x2), some (ax_i s0)] [.ref r, .ref r] rfl ?_
    refine ax_gR (v := .ref (B + 16)) (pc' := 183) ⟨_, rfl⟩ fl_3_25 (az_e 0 rfl) rfl rfl ?_
    refine ax_gR (v := .ref (B + 22)) (pc' := 186) ⟨_, rfl⟩ fl_3_224 (az_b 16 rfl) rfl rfl ?_
    refine ax_mv 1 187 [some (.ref r), some (ax_i x1), some (ax_i x2), some (ax_i s0)] [ax_i s0, .ref (B + 22), .ref r] rfl ?_
    obtain ⟨o3, h⟩ := h
    refine ax_ild (n := 700) (pc' := 188) ⟨_, rfl⟩ (az_b 22 rfl) (by decide) o3 rfl ?_
    refine ax_mv 1 189 [some (.ref r), some (ax_i x1), some (ax_i x2), some (ax_i s0)] [.ref r, ax_i (V4 522 s0), .ref r] rfl ?_
    refine ax_gR (v := .ref (B + 16)) (pc' := 192) ⟨_, rfl⟩ fl_3_25 (az_e 0 rfl) rfl rfl ?_
    refine ax_gR (v := .ref (B + 28)) (pc' := 195) ⟨_, rfl⟩ fl_3_199 (az_b 16 rfl) rfl rfl ?_
    refine ax_mv 1 196 [some (.ref r), some (ax_i x1), some (ax_i x2), some (ax_i s0)] [ax_i s0, .ref (B + 28), ax_i (V4 522 s0), .ref r] rfl ?_
    obtain ⟨o4, h⟩ := h
    refine ax_ild (n := 700) (pc' := 197) ⟨_, rfl⟩ (az_b 28 rfl) (by decide) o4 rfl ?_
    refine ax_callN (pc' := 200) ⟨_, rfl⟩ ml_3_212 (rest := []) rfl (fun ss hs => ⟨_, _, (az_e 0 rfl) ss hs⟩) (Nat.le_of_ble_eq_true rfl) rfl rfl h (fun V5 hg5 h => ?_)
    refine ax_mv 1 230 [some (.ref r), some (ax_i x1), some (ax_i x2), some (ax_i s0)] [] rfl ?_
    exact ax_nret ⟨_, rfl⟩ rfl hg5 h
  have t4 : (V 517 x1 = 22) → ax_R (az_W B (az_EJ B r)) ax_t d m_Judge_judgePartSorts 147 [some (.ref r), some (ax_i x1), some (ax_i x2), some (ax_i s0)] [] V (ax_Nr Φ) Θ := fun hk => by
    have h := h.2.2.2.2.1 hk
    refine ax_mv 2 149 [some (.ref r), some (ax_i x1), some (ax_i x2), some (ax_i s0)] [ax_i x1, .ref r] rfl ?_
    refine ax_callN (pc' := 152) ⟨_, rfl⟩ ml_3_230 (rest := []) rfl (fun ss hs => ⟨_, _, (az_e 0 rfl) ss hs⟩) (Nat.le_of_ble_eq_true rfl) rfl rfl h (fun V6 hg6 h => ?_)
    refine ax_mv 1 230 [some (.ref r), some (ax_i x1), some (ax_i x2), some (ax_i s0)] [] rfl ?_
    exact ax_nret ⟨_, rfl⟩ rfl hg6 h
  have tD : ¬ V 517 x1 = 0 → ¬ V 517 x1 = 1 → ¬ V 517 x1 = 2 → ¬ V 517 x1 = 3 → ¬ V 517 x1 = 6 → ¬ V 517 x1 = 20 → ¬ V 517 x1 = 5 → ¬ V 517 x1 = 7 → ¬ V 517 x1 = 8 → ¬ V 517 x1 = 9 → ¬ V 517 x1 = 10 → ¬ V 517 x1 = 19 → ¬ V 517 x1 = 21 → ¬ V 517 x1 = 18 → ¬ V 517 x1 = 22 → ax_R (az_W B (az_EJ B r)) ax_t d m_Judge_judgePartSorts 218 [some (.ref r), some (ax_i x1), some (ax_i x2), some (ax_i s0)] [] V (ax_Nr Φ) Θ := fun n0 n1 n2 n3 n4 n5 n6 n7 n8 n9 n10 n11 n12 n13 n14 => by
    have h := h.2.2.2.2.2 n0 n1 n2 n3 n4 n5 n6 n7 n8 n9 n10 n11 n12 n13 n14
    refine ax_mv 3 221 [some (.ref r), some (ax_i x1), some (ax_i x2), some (ax_i s0)] [ax_i 0, ax_i x2, .ref r] rfl ?_
    refine ax_callN (pc' := 224) ⟨_, rfl⟩ ml_3_212 (rest := []) rfl (fun ss hs => ⟨_, _, (az_e 0 rfl) ss hs⟩) (Nat.le_of_ble_eq_true rfl) rfl rfl h (fun V7 hg7 h => ?_)
    refine ax_mv 3 227 [some (.ref r), some (ax_i x1), some (ax_i x2), some (ax_i s0)] [ax_i 0, ax_i s0, .ref r] rfl ?_
    refine ax_callN (pc' := 230) ⟨_, rfl⟩ ml_3_212 (rest := []) rfl (fun ss hs => ⟨_, _, (az_e 0 rfl) ss hs⟩) (Nat.le_of_ble_eq_true rfl) rfl rfl h (fun V8 hg8 h => ?_)
    exact ax_nret ⟨_, rfl⟩ rfl hg8 h
  by_cases e0 : V 517 x1 = 0
  · exact ax_tsC (off := 107) (p1 := 144) ⟨_, rfl⟩ (hg _ _) (by omega) (by omega) (by rw [e0]; rfl) (by decide) (t0 (Or.inl e0))
  by_cases e1 : V 517 x1 = 1
  · exact ax_tsC (off := 107) (p1 := 144) ⟨_, rfl⟩ (hg _ _) (by omega) (by omega) (by rw [e1]; rfl) (by decide) (t0 (Or.inr (Or.inl e1)))
  by_cases e2 : V 517 x1 = 2
  · exact ax_tsC (off := 107) (p1 := 144) ⟨_, rfl⟩ (hg _ _) (by omega) (by omega) (by rw [e2]; rfl) (by decide) (t0 (Or.inr (Or.inr (Or.inl e2))))
  by_cases e3 : V 517 x1 = 3
  · exact ax_tsC (off := 107) (p1 := 144) ⟨_, rfl⟩ (hg _ _) (by omega) (by omega) (by rw [e3]; rfl) (by decide) (t0 (Or.inr (Or.inr (Or.inr (Or.inl e3)))))
  by_cases e4 : V 517 x1 = 4
  · exact ax_tsC (off := 181) (p1 := 218) ⟨_, rfl⟩ (hg _ _) (by omega) (by omega) (by rw [e4]; rfl) (by decide) (tD (by omega) (by omega) (by omega) (by omega) (by omega) (by omega) (by omega) (by omega) (by omega) (by omega) (by omega) (by omega) (by omega) (by omega) (by omega))
  by_cases e5 : V 517 x1 = 5
  · exact ax_tsC (off := 166) (p1 := 203) ⟨_, rfl⟩ (hg _ _) (by omega) (by omega) (by rw [e5]; rfl) (by decide) (t1 (Or.inl e5))
  by_cases e6 : V 517 x1 = 6
  · exact ax_tsC (off := 107) (p1 := 144) ⟨_, rfl⟩ (hg _ _) (by omega) (by omega) (by rw [e6]; rfl) (by decide) (t0 (Or.inr (Or.inr (Or.inr (Or.inr (Or.inl e6))))))
  by_cases e7 : V 517 x1 = 7
  · exact ax_tsC (off := 166) (p1 := 203) ⟨_, rfl⟩ (hg _ _) (by omega) (by omega) (by rw [e7]; rfl) (by decide) (t1 (Or.inr (Or.inl e7)))
  by_cases e8 : V 517 x1 = 8
  · exact ax_tsC (off := 166) (p1 := 203) ⟨_, rfl⟩ (hg _ _) (by omega) (by omega) (by rw [e8]; rfl) (by decide) (t1 (Or.inr (Or.inr (e8))))
  by_cases e9 : V 517 x1 = 9
  · exact ax_tsC (off := 118) (p1 := 155) ⟨_, rfl⟩ (hg _ _) (by omega) (by omega) (by rw [e9]; rfl) (by decide) (t2 (Or.inl e9))
  by_cases e10 : V 517 x1 = 10
  · exact ax_tsC (off := 118) (p1 := 155) ⟨_, rfl⟩ (hg _ _) (by omega) (by omega) (by rw [e10]; rfl) (by decide) (t2 (Or.inr (Or.inl e10)))
  by_cases e11 : V 517 x1 = 11
  · exact ax_tsC (off := 181) (p1 := 218) ⟨_, rfl⟩ (hg _ _) (by omega) (by omega) (by rw [e11]; rfl) (by decide) (tD (by omega) (by omega) (by omega) (by omega) (by omega) (by omega) (by omega) (by omega) (by omega) (by omega) (by omega) (by omega) (by omega) (by omega) (by omega))
  by_cases e12 : V 517 x1 = 12
  · exact ax_tsC (off := 181) (p1 := 218) ⟨_, rfl⟩ (hg _ _) (by omega) (by omega) (by rw [e12]; rfl) (by decide) (tD (by omega) (by omega) (by omega) (by omega) (by omega) (by omega) (by omega) (by omega) (by omega) (by omega) (by omega) (by omega) (by omega) (by omega) (by omega))
  by_cases e13 : V 517 x1 = 13
  · exact ax_tsC (off := 181) (p1 := 218) ⟨_, rfl⟩ (hg _ _) (by omega) (by omega) (by rw [e13]; rfl) (by decide) (tD (by omega) (by omega) (by omega) (by omega) (by omega) (by omega) (by omega) (by omega) (by omega) (by omega) (by omega) (by omega) (by omega) (by omega) (by omega))
  by_cases e14 : V 517 x1 = 14
  · exact ax_tsC (off := 181) (p1 := 218) ⟨_, rfl⟩ (hg _ _) (by omega) (by omega) (by rw [e14]; rfl) (by decide) (tD (by omega) (by omega) (by omega) (by omega) (by omega) (by omega) (by omega) (by omega) (by omega) (by omega) (by omega) (by omega) (by omega) (by omega) (by omega))
  by_cases e15 : V 517 x1 = 15
  · exact ax_tsC (off := 181) (p1 := 218) ⟨_, rfl⟩ (hg _ _) (by omega) (by omega) (by rw [e15]; rfl) (by decide) (tD (by omega) (by omega) (by omega) (by omega) (by omega) (by omega) (by omega) (by omega) (by omega) (by omega) (by omega) (by omega) (by omega) (by omega) (by omega))
  by_cases e16 : V 517 x1 = 16
  · exact ax_tsC (off := 181) (p1 := 218) ⟨_, rfl⟩ (hg _ _) (by omega) (by omega) (by rw [e16]; rfl) (by decide) (tD (by omega) (by omega) (by omega) (by omega) (by omega) (by omega) (by omega) (by omega) (by omega) (by omega) (by omega) (by omega) (by omega) (by omega) (by omega))
  by_cases e17 : V 517 x1 = 17
  · exact ax_tsC (off := 181) (p1 := 218) ⟨_, rfl⟩ (hg _ _) (by omega) (by omega) (by rw [e17]; rfl) (by decide) (tD (by omega) (by omega) (by omega) (by omega) (by omega) (by omega) (by omega) (by omega) (by omega) (by omega) (by omega) (by omega) (by omega) (by omega) (by omega))
  by_cases e18 : V 517 x1 = 18
  · exact ax_tsC (off := 135) (p1 := 172) ⟨_, rfl⟩ (hg _ _) (by omega) (by omega) (by rw [e18]; rfl) (by decide) (t3 (e18))
  by_cases e19 : V 517 x1 = 19
  · exact ax_tsC (off := 118) (p1 := 155) ⟨_, rfl⟩ (hg _ _) (by omega) (by omega) (by rw [e19]; rfl) (by decide) (t2 (Or.inr (Or.inr (Or.inl e19))))
  by_cases e20 : V 517 x1 = 20
  · exact ax_tsC (off := 107) (p1 := 144) ⟨_, rfl⟩ (hg _ _) (by omega) (by omega) (by rw [e20]; rfl) (by decide) (t0 (Or.inr (Or.inr (Or.inr (Or.inr (Or.inr (e20)))))))
  by_cases e21 : V 517 x1 = 21
  · exact ax_tsC (off := 118) (p1 := 155) ⟨_, rfl⟩ (hg _ _) (by omega) (by omega) (by rw [e21]; rfl) (by decide) (t2 (Or.inr (Or.inr (Or.inr (e21)))))
  by_cases e22 : V 517 x1 = 22
  · exact ax_tsC (off := 110) (p1 := 147) ⟨_, rfl⟩ (hg _ _) (by omega) (by omega) (by rw [e22]; rfl) (by decide) (t4 (e22))
  exact ax_tsD (p1 := 218) ⟨_, rfl⟩ (hg _ _) (by omega) (by decide) (tD e0 e1 e2 e3 e6 e20 e5 e7 e8 e9 e10 e19 e21 e18 e22)
set_option maxRecDepth 20000 in
theorem r_Judge_judgePartSorts {B : Nat} {r : Nat} {d : Nat} {V : ax_V} {Φ : ax_V → Prop} {Θ : ax_V → Prop} {x1 : Int} (hg : ax_g V) (hx1 : ax_rg x1) (h : (0 ≤ x1 ∧ x1 < 700) ∧ ((0 ≤ V 521 x1 → (0 ≤ V 521 x1 ∧ V 521 x1 < 700) ∧ k_Judge_judgePartSorts_27 B r d x1 (V 521 x1) none (V 522 (V 521 x1)) V Φ Θ) ∧ (V 521 x1 < 0 → k_Judge_judgePartSorts_27 B r d x1 (V 521 x1) none (-1) V Φ Θ))) : ax_N (az_W B (az_EJ B r)) (d + 1) q_Judge_judgePartSorts [.ref r, ax_i x1] V Φ Θ := by
  refine ax_T.of (M := m_Judge_judgePartSorts) rfl (Nat.le_of_ble_eq_true rfl) ?_
  refine ax_mv 0 0 [some (.ref r), some (ax_i x1), none, none] [] rfl ?_
  refine ax_mv 1 1 [some (.ref r), some (ax_i x1), none, none] [.ref r] rfl ?_
  refine ax_gR (v := .ref (B + 16)) (pc' := 4) ⟨_, rfl⟩ fl_3_25 (az_e 0 rfl) rfl rfl ?_
  refine ax_gR (v := .ref (B + 21)) (pc' := 7) ⟨_, rfl⟩ fl_3_215 (az_b 16 rfl) rfl rfl ?_
  refine ax_mv 1 8 [some (.ref r), some (ax_i x1), none, none] [ax_i x1, .ref (B + 21)] rfl ?_
  obtain ⟨o5, h⟩ := h
  refine ax_ild (n := 700) (pc' := 9) ⟨_, rfl⟩ (az_b 21 rfl) (by decide) o5 rfl ?_
  refine ax_sti (i := 0) (k := 2) (n := 1) (pc' := 10) (L' := [some (.ref r), some (ax_i x1), some (ax_i (V 521 x1)), none]) ⟨_, rfl⟩ rfl rfl rfl (Nat.le_of_ble_eq_true rfl) rfl rfl ?_
  refine ax_mv 1 11 [some (.ref r), some (ax_i x1), some (ax_i (V 521 x1)), none] [ax_i (V 521 x1)] rfl ?_
  refine ax_if (p1 := 18) (p2 := 14) ⟨_, rfl⟩ (by decide) rfl (hg _ _) (fun hc => ?_) (fun hc => ?_)
  · have h := h.1 hc
    refine ax_mv 1 19 [some (.ref r), some (ax_i x1), some (ax_i (V 521 x1)), none] [.ref r] rfl ?_
    refine ax_gR (v := .ref (B + 16)) (pc' := 22) ⟨_, rfl⟩ fl_3_25 (az_e 0 rfl) rfl rfl ?_
    refine ax_gR (v := .ref (B + 22)) (pc' := 25) ⟨_, rfl⟩ fl_3_224 (az_b 16 rfl) rfl rfl ?_
    refine ax_mv 1 26 [some (.ref r), some (ax_i x1), some (ax_i (V 521 x1)), none] [ax_i (V 521 x1), .ref (B + 22)] rfl ?_
    obtain ⟨o6, h⟩ := h
    refine ax_ild (n := 700) (pc' := 27) ⟨_, rfl⟩ (az_b 22 rfl) (by decide) o6 rfl ?_
    exact h
  · have h := h.2 (Int.not_le.mp hc)
    refine ax_mv 2 27 [some (.ref r), some (ax_i x1), some (ax_i (V 521 x1)), none] [ax_i (-1)] rfl ?_
    exact h
abbrev k_Judge_judgeCallSorts_38 (B : Nat) (r : Nat) (d : Nat) (x1 : Int) (x2 : Int) (x3 : Int) (x4 : Int) (x5 : Int) (V : ax_V) (Φ : ax_V → Prop) (Θ : ax_V → Prop) : Prop := ax_R (az_W B (az_EJ B r)) ax_t d m_Judge_judgeCallSorts 38 [some (.ref r), some (ax_i x1), some (ax_i x2), some (ax_i x3), some (ax_i x4), some (ax_i x5)] [] V (ax_Nr Φ) Θ
abbrev k_Judge_judgeCallSorts_131 (B : Nat) (r : Nat) (d : Nat) (x1 : Int) (x2 : Int) (y3 : Option Value) (y4 : Option Value) (y5 : Option Value) (s0 : Int) (V : ax_V) (Φ : ax_V → Prop) (Θ : ax_V → Prop) : Prop := ax_R (az_W B (az_EJ B r)) ax_t d m_Judge_judgeCallSorts 131 [some (.ref r), some (ax_i x1), some (ax_i x2), y3, y4, y5] [ax_i s0, .ref r] V (ax_Nr Φ) Θ
set_option maxRecDepth 20000 in
theorem r_Judge_judgeCallSorts_38 {B : Nat} {r : Nat} {d : Nat} {V : ax_V} {Φ : ax_V → Prop} {Θ : ax_V → Prop} {x1 : Int} {x2 : Int} {x3 : Int} {x4 : Int} {x5 : Int} (hg : ax_g V) (hx1 : ax_rg x1) (hx2 : ax_rg x2) (hx3 : ax_rg x3) (hx4 : ax_rg x4) (hx5 : ax_rg x5) (h : ((700 ≤ x5 → (0 ≤ x2 ∧ x2 < 8) ∧ ((x4 = V 503 x2 → k_Judge_judgeCallSorts_131 B r d x1 x2 (some (ax_i x3)) (some (ax_i x4)) (some (ax_i x5)) 0 V Φ Θ) ∧ (¬ x4 = V 503 x2 → k_Judge_judgeCallSorts_131 B r d x1 x2 (some (ax_i x3)) (some (ax_i x4)) (some (ax_i x5)) 1 V Φ Θ))) ∧ (x5 < 700 → ((x3 < 0 → (0 ≤ x2 ∧ x2 < 8) ∧ ((x4 = V 503 x2 → k_Judge_judgeCallSorts_131 B r d x1 x2 (some (ax_i x3)) (some (ax_i x4)) (some (ax_i x5)) 0 V Φ Θ) ∧ (¬ x4 = V 503 x2 → k_Judge_judgeCallSorts_131 B r d x1 x2 (some (ax_i x3)) (some (ax_i x4)) (some (ax_i x5)) 1 V Φ Θ))) ∧ (0 ≤ x3 → (0 ≤ x2 ∧ x2 < 8) ∧ ((V 503 x2 ≤ x4 → (0 ≤ x3 ∧ x3 < 700) ∧ k_Judge_judgeCallSorts_38 B r d x1 x2 (V 522 x3) (x4 + 1) (x5 + 1) V Φ Θ) ∧ (x4 < V 503 x2 → (0 ≤ (x2 * 26) + x4 ∧ (x2 * 26) + x4 < 208) ∧ (0 ≤ V 506 ((x2 * 26) + x4) ∧ V 506 ((x2 * 26) + x4) < 208) ∧ ax_N (az_W B (az_EJ B r)) d q_Judge_mustBe [.ref r, ax_i x3, ax_i (V 535 (V 506 ((x2 * 26) + x4)))] V (fun V1 => (0 ≤ x3 ∧ x3 < 700) ∧ k_Judge_judgeCallSorts_38 B r d x1 x2 (V1 522 x3) (x4 + 1) (x5 + 1) V1 Φ Θ) Θ))))))) : k_Judge_judgeCallSorts_38 B r d x1 x2 x3 x4 x5 V Φ Θ := by
  refine ax_mv 1 40 [some (.ref r), some (ax_i x1), some (ax_i x2), some (ax_i x3), some (ax_i x4), some (ax_i x5)] [ax_i x5] rfl ?_
  refine ax_sip (pc' := 43) ⟨_, rfl⟩ (by decide) rfl ?_
  refine ax_if2 (p1 := 111) (p2 := 46) ⟨_, rfl⟩ (by decide) rfl hx5 (by decide) (fun hc => ?_) (fun hc => ?_)
  · have h := h.1 hc
    refine ax_mv 3 115 [some (.ref r), some (ax_i x1), some (ax_i x2), some (ax_i x3), some (ax_i x4), some (ax_i x5)] [.ref r, ax_i x4, .ref r] rfl ?_
    refine ax_gR (v := .ref B) (pc' := 118) ⟨_, rfl⟩ fl_3_15 (az_e 0 rfl) rfl rfl ?_
    refine ax_gR (v := .ref (B + 3)) (pc' := 121) ⟨_, rfl⟩ fl_3_233 (az_b 0 rfl) rfl rfl ?_
    refine ax_mv 1 122 [some (.ref r), some (ax_i x1), some (ax_i x2), some (ax_i x3), some (ax_i x4), some (ax_i x5)] [ax_i x2, .ref (B + 3), ax_i x4, .ref r] rfl ?_
    obtain ⟨o1, h⟩ := h
    refine ax_ild (n := 8) (pc' := 123) ⟨_, rfl⟩ (az_b 3 rfl) (by decide) o1 rfl ?_
    refine ax_if2 (p1 := 130) (p2 := 126) ⟨_, rfl⟩ (by decide) rfl hx4 (hg _ _) (fun hc => ?_) (fun hc => ?_)
    · have h := h.1 hc
      refine ax_mv 1 131 [some (.ref r), some (ax_i x1), some (ax_i x2), some (ax_i x3), some (ax_i x4), some (ax_i x5)] [ax_i 0, .ref r] rfl ?_
      exact h
    · have h := h.2 hc
      refine ax_mv 2 131 [some (.ref r), some (ax_i x1), some (ax_i x2), some (ax_i x3), some (ax_i x4), some (ax_i x5)] [ax_i 1, .ref r] rfl ?_
      exact h
  · have h := h.2 (Int.not_le.mp hc)
    refine ax_mv 1 47 [some (.ref r), some (ax_i x1), some (ax_i x2), some (ax_i x3), some (ax_i x4), some (ax_i x5)] [ax_i x3] rfl ?_
    refine ax_if (p1 := 111) (p2 := 50) ⟨_, rfl⟩ (by decide) rfl hx3 (fun hc => ?_) (fun hc => ?_)
    · have h := h.1 hc
      refine ax_mv 3 115 [some (.ref r), some (ax_i x1), some (ax_i x2), some (ax_i x3), some (ax_i x4), some (ax_i x5)] [.ref r, ax_i x4, .ref r] rfl ?_
      refine ax_gR (v := .ref B) (pc' := 118) ⟨_, rfl⟩ fl_3_15 (az_e 0 rfl) rfl rfl ?_
      refine ax_gR (v := .ref (B + 3)) (pc' := 121) ⟨_, rfl⟩ fl_3_233 (az_b 0 rfl) rfl rfl ?_
      refine ax_mv 1 122 [some (.ref r), some (ax_i x1), some (ax_i x2), some (ax_i x3), some (ax_i x4), some (ax_i x5)] [ax_i x2, .ref (B + 3), ax_i x4, .ref r] rfl ?_
      obtain ⟨o2, h⟩ := h
      refine ax_ild (n := 8) (pc' := 123) ⟨_, rfl⟩ (az_b 3 rfl) (by decide) o2 rfl ?_
      refine ax_if2 (p1 := 130) (p2 := 126) ⟨_, rfl⟩ (by decide) rfl hx4 (hg _ _) (fun hc => ?_) (fun hc => ?_)
      · have h := h.1 hc
        refine ax_mv 1 131 [some (.ref r), some (ax_i x1), some (ax_i x2), some (ax_i x3), some (ax_i x4), some (ax_i x5)] [ax_i 0, .ref r] rfl ?_
        exact h
      · have h := h.2 hc
        refine ax_mv 2 131 [some (.ref r), some (ax_i x1), some (ax_i x2), some (ax_i x3), some (ax_i x4), some (ax_i x5)] [ax_i 1, .ref r] rfl ?_
        exact h
    · have h := h.2 (Int.not_lt.mp hc)
      refine ax_mv 2 53 [some (.ref r), some (ax_i x1), some (ax_i x2), some (ax_i x3), some (ax_i x4), some (ax_i x5)] [.ref r, ax_i x4] rfl ?_
      refine ax_gR (v := .ref B) (pc' := 56) ⟨_, rfl⟩ fl_3_15 (az_e 0 rfl) rfl rfl ?_
      refine ax_gR (v := .ref (B + 3)) (pc' := 59) ⟨_, rfl⟩ fl_3_233 (az_b 0 rfl) rfl rfl ?_
      refine ax_mv 1 60 [some (.ref r), some (ax_i x1), some (ax_i x2), some (ax_i x3), some (ax_i x4), some (ax_i x5)] [ax_i x2, .ref (B + 3), ax_i x4] rfl ?_
      obtain ⟨o3, h⟩ := h
      refine ax_ild (n := 8) (pc' := 61) ⟨_, rfl⟩ (az_b 3 rfl) (by decide) o3 rfl ?_
      refine ax_if2 (p1 := 92) (p2 := 64) ⟨_, rfl⟩ (by decide) rfl hx4 (hg _ _) (fun hc => ?_) (fun hc => ?_)
      · have h := h.1 hc
        refine ax_inc (x := x4) (pc' := 95) (L' := [some (.ref r), some (ax_i x1), some (ax_i x2), some (ax_i x3), some (ax_i (x4 + 1)), some (ax_i x5)]) ⟨_, rfl⟩ rfl rfl rfl rfl ?_
        refine ax_mv 1 96 [some (.ref r), some (ax_i x1), some (ax_i x2), some (ax_i x3), some (ax_i (x4 + 1)), some (ax_i x5)] [.ref r] rfl ?_
        refine ax_gR (v := .ref (B + 16)) (pc' := 99) ⟨_, rfl⟩ fl_3_25 (az_e 0 rfl) rfl rfl ?_
        refine ax_gR (v := .ref (B + 22)) (pc' := 102) ⟨_, rfl⟩ fl_3_224 (az_b 16 rfl) rfl rfl ?_
        refine ax_mv 1 103 [some (.ref r), some (ax_i x1), some (ax_i x2), some (ax_i x3), some (ax_i (x4 + 1)), some (ax_i x5)] [ax_i x3, .ref (B + 22)] rfl ?_
        obtain ⟨o4, h⟩ := h
        refine ax_ild (n := 700) (pc' := 104) ⟨_, rfl⟩ (az_b 22 rfl) (by decide) o4 rfl ?_
        refine ax_sti (i := 0) (k := 3) (n := 1) (pc' := 105) (L' := [some (.ref r), some (ax_i x1), some (ax_i x2), some (ax_i (V 522 x3)), some (ax_i (x4 + 1)), some (ax_i x5)]) ⟨_, rfl⟩ rfl rfl rfl (Nat.le_of_ble_eq_true rfl) rfl rfl ?_
        refine ax_inc (x := x5) (pc' := 108) (L' := [some (.ref r), some (ax_i x1), some (ax_i x2), some (ax_i (V 522 x3)), some (ax_i (x4 + 1)), some (ax_i (x5 + 1))]) ⟨_, rfl⟩ rfl rfl rfl rfl ?_
        refine ax_mv 1 38 [some (.ref r), some (ax_i x1), some (ax_i x2), some (ax_i (V 522 x3)), some (ax_i (x4 + 1)), some (ax_i (x5 + 1))] [] rfl ?_
        exact h
      · have h := h.2 (Int.not_le.mp hc)
        refine ax_mv 3 67 [some (.ref r), some (ax_i x1), some (ax_i x2), some (ax_i x3), some (ax_i x4), some (ax_i x5)] [.ref r, ax_i x3, .ref r] rfl ?_
        refine ax_gR (v := .ref (B + 32)) (pc' := 70) ⟨_, rfl⟩ fl_3_30 (az_e 0 rfl) rfl rfl ?_
        refine ax_gR (v := .ref (B + 35)) (pc' := 73) ⟨_, rfl⟩ fl_3_91 (az_b 32 rfl) rfl rfl ?_
        refine ax_mv 1 74 [some (.ref r), some (ax_i x1), some (ax_i x2), some (ax_i x3), some (ax_i x4), some (ax_i x5)] [.ref r, .ref (B + 35), ax_i x3, .ref r] rfl ?_
        refine ax_gR (v := .ref B) (pc' := 77) ⟨_, rfl⟩ fl_3_15 (az_e 0 rfl) rfl rfl ?_
        refine ax_gR (v := .ref (B + 6)) (pc' := 80) ⟨_, rfl⟩ fl_3_236 (az_b 0 rfl) rfl rfl ?_
        refine ax_mv 1 81 [some (.ref r), some (ax_i x1), some (ax_i x2), some (ax_i x3), some (ax_i x4), some (ax_i x5)] [ax_i x2, .ref (B + 6), .ref (B + 35), ax_i x3, .ref r] rfl ?_
        refine ax_bip (pc' := 83) ⟨_, rfl⟩ (by decide) rfl ?_
        refine ax_mul (pc' := 84) ⟨_, rfl⟩ rfl ?_
        refine ax_mv 1 86 [some (.ref r), some (ax_i x1), some (ax_i x2), some (ax_i x3), some (ax_i x4), some (ax_i x5)] [ax_i x4, ax_i (x2 * 26), .ref (B + 6), .ref (B + 35), ax_i x3, .ref r] rfl ?_
        refine ax_add (pc' := 87) ⟨_, rfl⟩ rfl ?_
        obtain ⟨o5, h⟩ := h
        refine ax_ild (n := 208) (pc' := 88) ⟨_, rfl⟩ (az_b 6 rfl) (by decide) o5 rfl ?_
        obtain ⟨o6, h⟩ := h
        refine ax_ild (n := 208) (pc' := 89) ⟨_, rfl⟩ (az_b 35 rfl) (by decide) o6 rfl ?_
        refine ax_callN (pc' := 92) ⟨_, rfl⟩ ml_3_212 (rest := []) rfl (fun ss hs => ⟨_, _, (az_e 0 rfl) ss hs⟩) (Nat.le_of_ble_eq_true rfl) rfl rfl h (fun V1 hg1 h => ?_)
        refine ax_inc (x := x4) (pc' := 95) (L' := [some (.ref r), some (ax_i x1), some (ax_i x2), some (ax_i x3), some (ax_i (x4 + 1)), some (ax_i x5)]) ⟨_, rfl⟩ rfl rfl rfl rfl ?_
        refine ax_mv 1 96 [some (.ref r), some (ax_i x1), some (ax_i x2), some (ax_i x3), some (ax_i (x4 + 1)), some (ax_i x5)] [.ref r] rfl ?_
        refine ax_gR (v := .ref (B + 16)) (pc' := 99) ⟨_, rfl⟩ fl_3_25 (az_e 0 rfl) rfl rfl ?_
        refine ax_gR (v := .ref (B + 22)) (pc' := 102) ⟨_, rfl⟩ fl_3_224 (az_b 16 rfl) rfl rfl ?_
        refine ax_mv 1 103 [some (.ref r), some (ax_i x1), some (ax_i x2), some (ax_i x3), some (ax_i (x4 + 1)), some (ax_i x5)] [ax_i x3, .ref (B + 22)] rfl ?_
        obtain ⟨o7, h⟩ := h
        refine ax_ild (n := 700) (pc' := 104) ⟨_, rfl⟩ (az_b 22 rfl) (by decide) o7 rfl ?_
        refine ax_sti (i := 0) (k := 3) (n := 1) (pc' := 105) (L' := [some (.ref r), some (ax_i x1), some (ax_i x2), some (ax_i (V1 522 x3)), some (ax_i (x4 + 1)), some (ax_i x5)]) ⟨_, rfl⟩ rfl rfl rfl (Nat.le_of_ble_eq_true rfl) rfl rfl ?_
        refine ax_inc (x := x5) (pc' := 108) (L' := [some (.ref r), some (ax_i x1), some (ax_i x2), some (ax_i (V1 522 x3)), some (ax_i (x4 + 1)), some (ax_i (x5 + 1))]) ⟨_, rfl⟩ rfl rfl rfl rfl ?_
        refine ax_mv 1 38 [some (.ref r), some (ax_i x1), some (ax_i x2), some (ax_i (V1 522 x3)), some (ax_i (x4 + 1)), some (ax_i (x5 + 1))] [] rfl ?_
        exact h
set_option maxRecDepth 20000 in
theorem r_Judge_judgeCallSorts_131 {B : Nat} {r : Nat} {d : Nat} {V : ax_V} {Φ : ax_V → Prop} {Θ : ax_V → Prop} {x1 : Int} {x2 : Int} {y3 : Option Value} {y4 : Option Value} {y5 : Option Value} {s0 : Int} (hg : ax_g V) (hx1 : ax_rg x1) (hx2 : ax_rg x2) (hy3 : ax_y y3) (hy4 : ax_y y4) (hy5 : ax_y y5) (hs0 : ax_rg s0) (h : (0 ≤ x1 ∧ x1 < 700) ∧ ax_N (az_W B (az_EJ B r)) d q_Judge_blameIf [.ref r, ax_i s0, ax_i (V 518 x1)] V (fun V1 => (0 ≤ x2 ∧ x2 < 8) ∧ ((V1 504 x2 = 1 → (0 ≤ x1 ∧ x1 < 700) ∧ ax_N (az_W B (az_EJ B r)) d q_Judge_blameIf [.ref r, ax_i 0, ax_i (V1 518 x1)] V1 (fun V2 => Φ V2) Θ) ∧ (¬ V1 504 x2 = 1 → (0 ≤ x1 ∧ x1 < 700) ∧ ((V1 504 x2 = V1 527 x1 → (0 ≤ x1 ∧ x1 < 700) ∧ ax_N (az_W B (az_EJ B r)) d q_Judge_blameIf [.ref r, ax_i 0, ax_i (V1 518 x1)] V1 (fun V3 => Φ V3) Θ) ∧ (¬ V1 504 x2 = V1 527 x1 → (0 ≤ x1 ∧ x1 < 700) ∧ ax_N (az_W B (az_EJ B r)) d q_Judge_blameIf [.ref r, ax_i 1, ax_i (V1 518 x1)] V1 (fun V4 => Φ V4) Θ))))) Θ) : k_Judge_judgeCallSorts_131 B r d x1 x2 y3 y4 y5 s0 V Φ Θ := by
  refine ax_mv 1 132 [some (.ref r), some (ax_i x1), some (ax_i x2), y3, y4, y5] [.ref r, ax_i s0, .ref r] rfl ?_
  refine ax_gR (v := .ref (B + 16)) (pc' := 135) ⟨_, rfl⟩ fl_3_25 (az_e 0 rfl) rfl rfl ?_
  refine ax_gR (v := .ref (B + 18)) (pc' := 138) ⟨_, rfl⟩ fl_3_227 (az_b 16 rfl) rfl rfl ?_
  refine ax_mv 1 139 [some (.ref r), some (ax_i x1), some (ax_i x2), y3, y4, y5] [ax_i x1, .ref (B + 18), ax_i s0, .ref r] rfl ?_
  obtain ⟨o8, h⟩ := h
  refine ax_ild (n := 700) (pc' := 140) ⟨_, rfl⟩ (az_b 18 rfl) (by decide) o8 rfl ?_
  refine ax_callN (pc' := 143) ⟨_, rfl⟩ ml_3_123 (rest := []) rfl (fun ss hs => ⟨_, _, (az_e 0 rfl) ss hs⟩) (Nat.le_of_ble_eq_true rfl) rfl rfl h (fun V1 hg1 h => ?_)
  refine ax_mv 1 144 [some (.ref r), some (ax_i x1), some (ax_i x2), y3, y4, y5] [.ref r] rfl ?_
  refine ax_gR (v := .ref B) (pc' := 147) ⟨_, rfl⟩ fl_3_15 (az_e 0 rfl) rfl rfl ?_
  refine ax_gR (v := .ref (B + 4)) (pc' := 150) ⟨_, rfl⟩ fl_3_239 (az_b 0 rfl) rfl rfl ?_
  refine ax_mv 1 151 [some (.ref r), some (ax_i x1), some (ax_i x2), y3, y4, y5] [ax_i x2, .ref (B + 4)] rfl ?_
  obtain ⟨o9, h⟩ := h
  refine ax_ild (n := 8) (pc' := 152) ⟨_, rfl⟩ (az_b 4 rfl) (by decide) o9 rfl ?_
  refine ax_sti (i := 0) (k := 5) (n := 2) (pc' := 154) (L' := [some (.ref r), some (ax_i x1), some (ax_i x2), y3, y4, some (ax_i (V1 504 x2))]) ⟨_, rfl⟩ rfl rfl (ax_kill_y (k := 4) rfl hy4) (Nat.le_of_ble_eq_true rfl) rfl rfl ?_
  refine ax_mv 3 158 [some (.ref r), some (ax_i x1), some (ax_i x2), y3, y4, some (ax_i (V1 504 x2))] [ax_i 1, ax_i (V1 504 x2), .ref r] rfl ?_
  refine ax_if2 (p1 := 179) (p2 := 161) ⟨_, rfl⟩ (by decide) rfl (hg1 _ _) (by decide) (fun hc => ?_) (fun hc => ?_)
  · have h := h.1 hc
    refine ax_mv 2 181 [some (.ref r), some (ax_i x1), some (ax_i x2), y3, y4, some (ax_i (V1 504 x2))] [.ref r, ax_i 0, .ref r] rfl ?_
    refine ax_gR (v := .ref (B + 16)) (pc' := 184) ⟨_, rfl⟩ fl_3_25 (az_e 0 rfl) rfl rfl ?_
    refine ax_gR (v := .ref (B + 18)) (pc' := 187) ⟨_, rfl⟩ fl_3_227 (az_b 16 rfl) rfl rfl ?_
    refine ax_mv 1 188 [some (.ref r), some (ax_i x1), some (ax_i x2), y3, y4, some (ax_i (V1 504 x2))] [ax_i x1, .ref (B + 18), ax_i 0, .ref r] rfl ?_
    obtain ⟨o10, h⟩ := h
    refine ax_ild (n := 700) (pc' := 189) ⟨_, rfl⟩ (az_b 18 rfl) (by decide) o10 rfl ?_
    refine ax_callN (pc' := 192) ⟨_, rfl⟩ ml_3_123 (rest := []) rfl (fun ss hs => ⟨_, _, (az_e 0 rfl) ss hs⟩) (Nat.le_of_ble_eq_true rfl) rfl rfl h (fun V2 hg2 h => ?_)
    exact ax_nret ⟨_, rfl⟩ rfl hg2 h
  · have h := h.2 hc
    refine ax_mv 2 164 [some (.ref r), some (ax_i x1), some (ax_i x2), y3, y4, some (ax_i (V1 504 x2))] [.ref r, ax_i (V1 504 x2), .ref r] rfl ?_
    refine ax_gR (v := .ref (B + 16)) (pc' := 167) ⟨_, rfl⟩ fl_3_25 (az_e 0 rfl) rfl rfl ?_
    refine ax_gR (v := .ref (B + 27)) (pc' := 170) ⟨_, rfl⟩ fl_3_242 (az_b 16 rfl) rfl rfl ?_
    refine ax_mv 1 171 [some (.ref r), some (ax_i x1), some (ax_i x2), y3, y4, some (ax_i (V1 504 x2))] [ax_i x1, .ref (B + 27), ax_i (V1 504 x2), .ref r] rfl ?_
    obtain ⟨o11, h⟩ := h
    refine ax_ild (n := 700) (pc' := 172) ⟨_, rfl⟩ (az_b 27 rfl) (by decide) o11 rfl ?_
    refine ax_if2 (p1 := 179) (p2 := 175) ⟨_, rfl⟩ (by decide) rfl (hg1 _ _) (hg1 _ _) (fun hc => ?_) (fun hc => ?_)
    · have h := h.1 hc
      refine ax_mv 2 181 [some (.ref r), some (ax_i x1), some (ax_i x2), y3, y4, some (ax_i (V1 504 x2))] [.ref r, ax_i 0, .ref r] rfl ?_
      refine ax_gR (v := .ref (B + 16)) (pc' := 184) ⟨_, rfl⟩ fl_3_25 (az_e 0 rfl) rfl rfl ?_
      refine ax_gR (v := .ref (B + 18)) (pc' := 187) ⟨_, rfl⟩ fl_3_227 (az_b 16 rfl) rfl rfl ?_
      refine ax_mv 1 188 [some (.ref r), some (ax_i x1), some (ax_i x2), y3, y4, some (ax_i (V1 504 x2))] [ax_i x1, .ref (B + 18), ax_i 0, .ref r] rfl ?_
      obtain ⟨o12, h⟩ := h
      refine ax_ild (n := 700) (pc' := 189) ⟨_, rfl⟩ (az_b 18 rfl) (by decide) o12 rfl ?_
      refine ax_callN (pc' := 192) ⟨_, rfl⟩ ml_3_123 (rest := []) rfl (fun ss hs => ⟨_, _, (az_e 0 rfl) ss hs⟩) (Nat.le_of_ble_eq_true rfl) rfl rfl h (fun V3 hg3 h => ?_)
      exact ax_nret ⟨_, rfl⟩ rfl hg3 h
    · have h := h.2 hc
      refine ax_mv 3 181 [some (.ref r), some (ax_i x1), some (ax_i x2), y3, y4, some (ax_i (V1 504 x2))] [.ref r, ax_i 1, .ref r] rfl ?_
      refine ax_gR (v := .ref (B + 16)) (pc' := 184) ⟨_, rfl⟩ fl_3_25 (az_e 0 rfl) rfl rfl ?_
      refine ax_gR (v := .ref (B + 18)) (pc' := 187) ⟨_, rfl⟩ fl_3_227 (az_b 16 rfl) rfl rfl ?_
      refine ax_mv 1 188 [some (.ref r), some (ax_i x1), some (ax_i x2), y3, y4, some (ax_i (V1 504 x2))] [ax_i x1, .ref (B + 18), ax_i 1, .ref r] rfl ?_
      obtain ⟨o13, h⟩ := h
      refine ax_ild (n := 700) (pc' := 189) ⟨_, rfl⟩ (az_b 18 rfl) (by decide) o13 rfl ?_
      refine ax_callN (pc' := 192) ⟨_, rfl⟩ ml_3_123 (rest := []) rfl (fun ss hs => ⟨_, _, (az_e 0 rfl) ss hs⟩) (Nat.le_of_ble_eq_true rfl) rfl rfl h (fun V4 hg4 h => ?_)
      exact ax_nret ⟨_, rfl⟩ rfl hg4 h
set_option maxRecDepth 20000 in
theorem r_Judge_judgeCallSorts {B : Nat} {r : Nat} {d : Nat} {V : ax_V} {Φ : ax_V → Prop} {Θ : ax_V → Prop} {x1 : Int} (hg : ax_g V) (hx1 : ax_rg x1) (h : ax_I (az_W B (az_EJ B r)) d q_Parts_isCall [.ref (B + 16), ax_i x1] V (fun r1 V1 => ((r1 = 0 → Φ V1) ∧ (¬ r1 = 0 → (0 ≤ x1 ∧ x1 < 700) ∧ (0 ≤ x1 ∧ x1 < 700) ∧ k_Judge_judgeCallSorts_38 B r d x1 (V1 520 x1) (V1 521 x1) 0 0 V1 Φ Θ))) Θ) : ax_N (az_W B (az_EJ B r)) (d + 1) q_Judge_judgeCallSorts [.ref r, ax_i x1] V Φ Θ := by
  refine ax_T.of (M := m_Judge_judgeCallSorts) rfl (Nat.le_of_ble_eq_true rfl) ?_
  refine ax_mv 0 0 [some (.ref r), some (ax_i x1), none, none, none, none] [] rfl ?_
  refine ax_mv 1 1 [some (.ref r), some (ax_i x1), none, none, none, none] [.ref r] rfl ?_
  refine ax_gR (v := .ref (B + 16)) (pc' := 4) ⟨_, rfl⟩ fl_3_25 (az_e 0 rfl) rfl rfl ?_
  refine ax_mv 1 5 [some (.ref r), some (ax_i x1), none, none, none, none] [ax_i x1, .ref (B + 16)] rfl ?_
  refine ax_callI (pc' := 8) ⟨_, rfl⟩ ml_3_218 (rest := []) rfl (fun ss hs => ⟨_, _, (az_b 16 rfl) ss hs⟩) (Nat.le_of_ble_eq_true rfl) rfl rfl h (fun r1 V1 hg1 hr1 h => ?_)
  refine ax_if (p1 := 12) (p2 := 11) ⟨_, rfl⟩ (by decide) rfl hr1 (fun hc => ?_) (fun hc => ?_)
  · have h := h.2 hc
    refine ax_mv 1 13 [some (.ref r), some (ax_i x1), none, none, none, none] [.ref r] rfl ?_
    refine ax_gR (v := .ref (B + 16)) (pc' := 16) ⟨_, rfl⟩ fl_3_25 (az_e 0 rfl) rfl rfl ?_
    refine ax_gR (v := .ref (B + 20)) (pc' := 19) ⟨_, rfl⟩ fl_3_152 (az_b 16 rfl) rfl rfl ?_
    refine ax_mv 1 20 [some (.ref r), some (ax_i x1), none, none, none, none] [ax_i x1, .ref (B + 20)] rfl ?_
    obtain ⟨o14, h⟩ := h
    refine ax_ild (n := 700) (pc' := 21) ⟨_, rfl⟩ (az_b 20 rfl) (by decide) o14 rfl ?_
    refine ax_sti (i := 0) (k := 2) (n := 1) (pc' := 22) (L' := [some (.ref r), some (ax_i x1), some (ax_i (V1 520 x1)), none, none, none]) ⟨_, rfl⟩ rfl rfl rfl (Nat.le_of_ble_eq_true rfl) rfl rfl ?_
    refine ax_mv 1 23 [some (.ref r), some (ax_i x1), some (ax_i (V1 520 x1)), none, none, none] [.ref r] rfl ?_
    refine ax_gR (v := .ref (B + 16)) (pc' := 26) ⟨_, rfl⟩ fl_3_25 (az_e 0 rfl) rfl rfl ?_
    refine ax_gR (v := .ref (B + 21)) (pc' := 29) ⟨_, rfl⟩ fl_3_215 (az_b 16 rfl) rfl rfl ?_
    refine ax_mv 1 30 [some (.ref r), some (ax_i x1), some (ax_i (V1 520 x1)), none, none, none] [ax_i x1, .ref (B + 21)] rfl ?_
    obtain ⟨o15, h⟩ := h
    refine ax_ild (n := 700) (pc' := 31) ⟨_, rfl⟩ (az_b 21 rfl) (by decide) o15 rfl ?_
    refine ax_sti (i := 0) (k := 3) (n := 1) (pc' := 32) (L' := [some (.ref r), some (ax_i x1), some (ax_i (V1 520 x1)), some (ax_i (V1 521 x1)), none, none]) ⟨_, rfl⟩ rfl rfl rfl (Nat.le_of_ble_eq_true rfl) rfl rfl ?_
    refine ax_mv 1 33 [some (.ref r), some (ax_i x1), some (ax_i (V1 520 x1)), some (ax_i (V1 521 x1)), none, none] [ax_i 0] rfl ?_
    refine ax_sti (i := 0) (k := 4) (n := 2) (pc' := 35) (L' := [some (.ref r), some (ax_i x1), some (ax_i (V1 520 x1)), some (ax_i (V1 521 x1)), some (ax_i 0), none]) ⟨_, rfl⟩ rfl rfl rfl (Nat.le_of_ble_eq_true rfl) rfl rfl ?_
    refine ax_mv 1 36 [some (.ref r), some (ax_i x1), some (ax_i (V1 520 x1)), some (ax_i (V1 521 x1)), some (ax_i 0), none] [ax_i 0] rfl ?_
    refine ax_sti (i := 0) (k := 5) (n := 2) (pc' := 38) (L' := [some (.ref r), some (ax_i x1), some (ax_i (V1 520 x1)), some (ax_i (V1 521 x1)), some (ax_i 0), some (ax_i 0)]) ⟨_, rfl⟩ rfl rfl rfl (Nat.le_of_ble_eq_true rfl) rfl rfl ?_
    exact h
  · have h := h.1 (Classical.not_not.mp hc)
    exact ax_nret ⟨_, rfl⟩ rfl hg1 h
theorem r_Judge_mustBe {B : Nat} {r : Nat} {d : Nat} {V : ax_V} {Φ : ax_V → Prop} {Θ : ax_V → Prop} {x1 : Int} {x2 : Int} (hg : ax_g V) (hx1 : ax_rg x1) (hx2 : ax_rg x2) (h : ((x1 < 0 → Φ V) ∧ (0 ≤ x1 → (0 ≤ x1 ∧ x1 < 700) ∧ ((V 528 x1 = x2 → (0 ≤ x1 ∧ x1 < 700) ∧ ax_N (az_W B (az_EJ B r)) d q_Judge_blameIf [.ref r, ax_i 0, ax_i (V 518 x1)] V (fun V1 => Φ V1) Θ) ∧ (¬ V 528 x1 = x2 → (0 ≤ x1 ∧ x1 < 700) ∧ ax_N (az_W B (az_EJ B r)) d q_Judge_blameIf [.ref r, ax_i 1, ax_i (V 518 x1)] V (fun V2 => Φ V2) Θ))))) : ax_N (az_W B (az_EJ B r)) (d + 1) q_Judge_mustBe [.ref r, ax_i x1, ax_i x2] V Φ Θ := by
  refine ax_T.of (M := m_Judge_mustBe) rfl (Nat.le_of_ble_eq_true rfl) ?_
  refine ax_mv 0 0 [some (.ref r), some (ax_i x1), some (ax_i x2)] [] rfl ?_
  refine ax_mv 1 1 [some (.ref r), some (ax_i x1), some (ax_i x2)] [ax_i x1] rfl ?_
  refine ax_if (p1 := 35) (p2 := 4) ⟨_, rfl⟩ (by decide) rfl hx1 (fun hc => ?_) (fun hc => ?_)
  · have h := h.1 hc
    exact ax_nret ⟨_, rfl⟩ rfl hg h
  · have h := h.2 (Int.not_lt.mp hc)
    refine ax_mv 2 6 [some (.ref r), some (ax_i x1), some (ax_i x2)] [.ref r, .ref r] rfl ?_
    refine ax_gR (v := .ref (B + 16)) (pc' := 9) ⟨_, rfl⟩ fl_3_25 (az_e 0 rfl) rfl rfl ?_
    refine ax_gR (v := .ref (B + 28)) (pc' := 12) ⟨_, rfl⟩ fl_3_199 (az_b 16 rfl) rfl rfl ?_
    refine ax_mv 1 13 [some (.ref r), some (ax_i x1), some (ax_i x2)] [ax_i x1, .ref (B + 28), .ref r] rfl ?_
    obtain ⟨o1, h⟩ := h
    refine ax_ild (n := 700) (pc' := 14) ⟨_, rfl⟩ (az_b 28 rfl) (by decide) o1 rfl ?_
    refine ax_mv 1 15 [some (.ref r), some (ax_i x1), some (ax_i x2)] [ax_i x2, ax_i (V 528 x1), .ref r] rfl ?_
    refine ax_if2 (p1 := 22) (p2 := 18) ⟨_, rfl⟩ (by decide) rfl (hg _ _) hx2 (fun hc => ?_) (fun hc => ?_)
    · have h := h.1 hc
      refine ax_mv 2 24 [some (.ref r), some (ax_i x1), some (ax_i x2)] [.ref r, ax_i 0, .ref r] rfl ?_
      refine ax_gR (v := .ref (B + 16)) (pc' := 27) ⟨_, rfl⟩ fl_3_25 (az_e 0 rfl) rfl rfl ?_
      refine ax_gR (v := .ref (B + 18)) (pc' := 30) ⟨_, rfl⟩ fl_3_227 (az_b 16 rfl) rfl rfl ?_
      refine ax_mv 1 31 [some (.ref r), some (ax_i x1), some (ax_i x2)] [ax_i x1, .ref (B + 18), ax_i 0, .ref r] rfl ?_
      obtain ⟨o2, h⟩ := h
      refine ax_ild (n := 700) (pc' := 32) ⟨_, rfl⟩ (az_b 18 rfl) (by decide) o2 rfl ?_
      refine ax_callN (pc' := 35) ⟨_, rfl⟩ ml_3_123 (rest := []) rfl (fun ss hs => ⟨_, _, (az_e 0 rfl) ss hs⟩) (Nat.le_of_ble_eq_true rfl) rfl rfl h (fun V1 hg1 h => ?_)
      exact ax_nret ⟨_, rfl⟩ rfl hg1 h
    · have h := h.2 hc
      refine ax_mv 3 24 [some (.ref r), some (ax_i x1), some (ax_i x2)] [.ref r, ax_i 1, .ref r] rfl ?_
      refine ax_gR (v := .ref (B + 16)) (pc' := 27) ⟨_, rfl⟩ fl_3_25 (az_e 0 rfl) rfl rfl ?_
      refine ax_gR (v := .ref (B + 18)) (pc' := 30) ⟨_, rfl⟩ fl_3_227 (az_b 16 rfl) rfl rfl ?_
      refine ax_mv 1 31 [some (.ref r), some (ax_i x1), some (ax_i x2)] [ax_i x1, .ref (B + 18), ax_i 1, .ref r] rfl ?_
      obtain ⟨o3, h⟩ := h
      refine ax_ild (n := 700) (pc' := 32) ⟨_, rfl⟩ (az_b 18 rfl) (by decide) o3 rfl ?_
      refine ax_callN (pc' := 35) ⟨_, rfl⟩ ml_3_123 (rest := []) rfl (fun ss hs => ⟨_, _, (az_e 0 rfl) ss hs⟩) (Nat.le_of_ble_eq_true rfl) rfl rfl h (fun V2 hg2 h => ?_)
      exact ax_nret ⟨_, rfl⟩ rfl hg2 h
abbrev k_Judge_judgeEquationSorts_130 (B : Nat) (r : Nat) (d : Nat) (y1 : Option Value) (x2 : Int) (x3 : Int) (x4 : Int) (x5 : Int) (x6 : Int) (y7 : Option Value) (V : ax_V) (Φ : ax_V → Prop) (Θ : ax_V → Prop) : Prop := ax_R (az_W B (az_EJ B r)) ax_t d m_Judge_judgeEquationSorts 130 [some (.ref r), y1, some (ax_i x2), some (ax_i x3), some (ax_i x4), some (ax_i x5), some (ax_i x6), y7] [] V (ax_Nr Φ) Θ
set_option maxRecDepth 20000 in
theorem r_Judge_judgeEquationSorts_130 {B : Nat} {r : Nat} {d : Nat} {V : ax_V} {Φ : ax_V → Prop} {Θ : ax_V → Prop} {y1 : Option Value} {x2 : Int} {x3 : Int} {x4 : Int} {x5 : Int} {x6 : Int} {y7 : Option Value} (hg : ax_g V) (hy1 : ax_y y1) (hx2 : ax_rg x2) (hx3 : ax_rg x3) (hx4 : ax_rg x4) (hx5 : ax_rg x5) (hx6 : ax_rg x6) (hy7 : ax_y y7) (h : ((x5 = 0 → Φ V) ∧ (¬ x5 = 0 → ((x4 ≤ x6 → Φ V) ∧ (x6 < x4 → ((26 ≤ x6 → Φ V) ∧ (x6 < 26 → (0 ≤ x2 ∧ x2 < 700) ∧ (0 ≤ ((V 520 x2) * 26) + x6 ∧ ((V 520 x2) * 26) + x6 < 208) ∧ (0 ≤ V 507 (((V 520 x2) * 26) + x6) ∧ V 507 (((V 520 x2) * 26) + x6) < 208) ∧ (0 ≤ x3 + x6 ∧ x3 + x6 < 350) ∧ (0 ≤ V 554 (x3 + x6) ∧ V 554 (x3 + x6) < 208) ∧ ((V 535 (V 507 (((V 520 x2) * 26) + x6)) = V 535 (V 554 (x3 + x6)) → (0 ≤ x2 ∧ x2 < 700) ∧ ax_N (az_W B (az_EJ B r)) d q_Judge_blameIf [.ref r, ax_i 0, ax_i (V 518 x2)] V (fun V1 => k_Judge_judgeEquationSorts_130 B r d y1 x2 x3 x4 x5 (x6 + 1) (some (ax_i (V 535 (V 507 (((V 520 x2) * 26) + x6))))) V1 Φ Θ) Θ) ∧ (¬ V 535 (V 507 (((V 520 x2) * 26) + x6)) = V 535 (V 554 (x3 + x6)) → (0 ≤ x2 ∧ x2 < 700) ∧ ax_N (az_W B (az_EJ B r)) d q_Judge_blameIf [.ref r, ax_i 1, ax_i (V 518 x2)] V (fun V2 => k_Judge_judgeEquationSorts_130 B r d y1 x2 x3 x4 x5 (x6 + 1) (some (ax_i (V 535 (V 507 (((V 520 x2) * 26) + x6))))) V2 Φ Θ) Θ))))))))) : k_Judge_judgeEquationSorts_130 B r d y1 x2 x3 x4 x5 x6 y7 V Φ Θ := by
  refine ax_mv 1 132 [some (.ref r), y1, some (ax_i x2), some (ax_i x3), some (ax_i x4), some (ax_i x5), some (ax_i x6), y7] [ax_i x5] rfl ?_
  refine ax_if (p1 := 231) (p2 := 135) ⟨_, rfl⟩ (by decide) rfl hx5 (fun hc => ?_) (fun hc => ?_)
  · have h := h.1 hc
    exact ax_nret ⟨_, rfl⟩ rfl hg h
  · have h := h.2 hc
    refine ax_mv 2 139 [some (.ref r), y1, some (ax_i x2), some (ax_i x3), some (ax_i x4), some (ax_i x5), some (ax_i x6), y7] [ax_i x4, ax_i x6] rfl ?_
    refine ax_if2 (p1 := 231) (p2 := 142) ⟨_, rfl⟩ (by decide) rfl hx6 hx4 (fun hc => ?_) (fun hc => ?_)
    · have h := h.1 hc
      exact ax_nret ⟨_, rfl⟩ rfl hg h
    · have h := h.2 (Int.not_le.mp hc)
      refine ax_mv 1 144 [some (.ref r), y1, some (ax_i x2), some (ax_i x3), some (ax_i x4), some (ax_i x5), some (ax_i x6), y7] [ax_i x6] rfl ?_
      refine ax_bip (pc' := 146) ⟨_, rfl⟩ (by decide) rfl ?_
      refine ax_if2 (p1 := 231) (p2 := 149) ⟨_, rfl⟩ (by decide) rfl hx6 (by decide) (fun hc => ?_) (fun hc => ?_)
      · have h := h.1 hc
        exact ax_nret ⟨_, rfl⟩ rfl hg h
      · have h := h.2 (Int.not_le.mp hc)
        refine ax_mv 1 150 [some (.ref r), y1, some (ax_i x2), some (ax_i x3), some (ax_i x4), some (ax_i x5), some (ax_i x6), y7] [.ref r] rfl ?_
        refine ax_gR (v := .ref (B + 32)) (pc' := 153) ⟨_, rfl⟩ fl_3_30 (az_e 0 rfl) rfl rfl ?_
        refine ax_gR (v := .ref (B + 35)) (pc' := 156) ⟨_, rfl⟩ fl_3_91 (az_b 32 rfl) rfl rfl ?_
        refine ax_mv 1 157 [some (.ref r), y1, some (ax_i x2), some (ax_i x3), some (ax_i x4), some (ax_i x5), some (ax_i x6), y7] [.ref r, .ref (B + 35)] rfl ?_
        refine ax_gR (v := .ref B) (pc' := 160) ⟨_, rfl⟩ fl_3_15 (az_e 0 rfl) rfl rfl ?_
        refine ax_gR (v := .ref (B + 7)) (pc' := 163) ⟨_, rfl⟩ fl_3_221 (az_b 0 rfl) rfl rfl ?_
        refine ax_mv 1 164 [some (.ref r), y1, some (ax_i x2), some (ax_i x3), some (ax_i x4), some (ax_i x5), some (ax_i x6), y7] [.ref r, .ref (B + 7), .ref (B + 35)] rfl ?_
        refine ax_gR (v := .ref (B + 16)) (pc' := 167) ⟨_, rfl⟩ fl_3_25 (az_e 0 rfl) rfl rfl ?_
        refine ax_gR (v := .ref (B + 20)) (pc' := 170) ⟨_, rfl⟩ fl_3_152 (az_b 16 rfl) rfl rfl ?_
        refine ax_mv 1 171 [some (.ref r), y1, some (ax_i x2), some (ax_i x3), some (ax_i x4), some (ax_i x5), some (ax_i x6), y7] [ax_i x2, .ref (B + 20), .ref (B + 7), .ref (B + 35)] rfl ?_
        obtain ⟨o1, h⟩ := h
        refine ax_ild (n := 700) (pc' := 172) ⟨_, rfl⟩ (az_b 20 rfl) (by decide) o1 rfl ?_
        refine ax_bip (pc' := 174) ⟨_, rfl⟩ (by decide) rfl ?_
        refine ax_mul (pc' := 175) ⟨_, rfl⟩ rfl ?_
        refine ax_mv 1 177 [some (.ref r), y1, some (ax_i x2), some (ax_i x3), some (ax_i x4), some (ax_i x5), some (ax_i x6), y7] [ax_i x6, ax_i ((V 520 x2) * 26), .ref (B + 7), .ref (B + 35)] rfl ?_
        refine ax_add (pc' := 178) ⟨_, rfl⟩ rfl ?_
        obtain ⟨o2, h⟩ := h
        refine ax_ild (n := 208) (pc' := 179) ⟨_, rfl⟩ (az_b 7 rfl) (by decide) o2 rfl ?_
        obtain ⟨o3, h⟩ := h
        refine ax_ild (n := 208) (pc' := 180) ⟨_, rfl⟩ (az_b 35 rfl) (by decide) o3 rfl ?_
        refine ax_sti (i := 0) (k := 7) (n := 2) (pc' := 182) (L' := [some (.ref r), y1, some (ax_i x2), some (ax_i x3), some (ax_i x4), some (ax_i x5), some (ax_i x6), some (ax_i (V 535 (V 507 (((V 520 x2) * 26) + x6))))]) ⟨_, rfl⟩ rfl rfl rfl (Nat.le_of_ble_eq_true rfl) rfl rfl ?_
        refine ax_mv 3 186 [some (.ref r), y1, some (ax_i x2), some (ax_i x3), some (ax_i x4), some (ax_i x5), some (ax_i x6), some (ax_i (V 535 (V 507 (((V 520 x2) * 26) + x6))))] [.ref r, ax_i (V 535 (V 507 (((V 520 x2) * 26) + x6))), .ref r] rfl ?_
        refine ax_gR (v := .ref (B + 32)) (pc' := 189) ⟨_, rfl⟩ fl_3_30 (az_e 0 rfl) rfl rfl ?_
        refine ax_gR (v := .ref (B + 35)) (pc' := 192) ⟨_, rfl⟩ fl_3_91 (az_b 32 rfl) rfl rfl ?_
        refine ax_mv 1 193 [some (.ref r), y1, some (ax_i x2), some (ax_i x3), some (ax_i x4), some (ax_i x5), some (ax_i x6), some (ax_i (V 535 (V 507 (((V 520 x2) * 26) + x6))))] [.ref r, .ref (B + 35), ax_i (V 535 (V 507 (((V 520 x2) * 26) + x6))), .ref r] rfl ?_
        refine ax_gR (v := .ref (B + 47)) (pc' := 196) ⟨_, rfl⟩ fl_3_35 (az_e 0 rfl) rfl rfl ?_
        refine ax_gR (v := .ref (B + 54)) (pc' := 199) ⟨_, rfl⟩ fl_3_102 (az_b 47 rfl) rfl rfl ?_
        refine ax_mv 2 202 [some (.ref r), y1, some (ax_i x2), some (ax_i x3), some (ax_i x4), some (ax_i x5), some (ax_i x6), some (ax_i (V 535 (V 507 (((V 520 x2) * 26) + x6))))] [ax_i x6, ax_i x3, .ref (B + 54), .ref (B + 35), ax_i (V 535 (V 507 (((V 520 x2) * 26) + x6))), .ref r] rfl ?_
        refine ax_add (pc' := 203) ⟨_, rfl⟩ rfl ?_
        obtain ⟨o4, h⟩ := h
        refine ax_ild (n := 350) (pc' := 204) ⟨_, rfl⟩ (az_b 54 rfl) (by decide) o4 rfl ?_
        obtain ⟨o5, h⟩ := h
        refine ax_ild (n := 208) (pc' := 205) ⟨_, rfl⟩ (az_b 35 rfl) (by decide) o5 rfl ?_
        refine ax_if2 (p1 := 212) (p2 := 208) ⟨_, rfl⟩ (by decide) rfl (hg _ _) (hg _ _) (fun hc => ?_) (fun hc => ?_)
        · have h := h.1 hc
          refine ax_mv 2 214 [some (.ref r), y1, some (ax_i x2), some (ax_i x3), some (ax_i x4), some (ax_i x5), some (ax_i x6), some (ax_i (V 535 (V 507 (((V 520 x2) * 26) + x6))))] [.ref r, ax_i 0, .ref r] rfl ?_
          refine ax_gR (v := .ref (B + 16)) (pc' := 217) ⟨_, rfl⟩ fl_3_25 (az_e 0 rfl) rfl rfl ?_
          refine ax_gR (v := .ref (B + 18)) (pc' := 220) ⟨_, rfl⟩ fl_3_227 (az_b 16 rfl) rfl rfl ?_
          refine ax_mv 1 221 [some (.ref r), y1, some (ax_i x2), some (ax_i x3), some (ax_i x4), some (ax_i x5), some (ax_i x6), some (ax_i (V 535 (V 507 (((V 520 x2) * 26) + x6))))] [ax_i x2, .ref (B + 18), ax_i 0, .ref r] rfl ?_
          obtain ⟨o6, h⟩ := h
          refine ax_ild (n := 700) (pc' := 222) ⟨_, rfl⟩ (az_b 18 rfl) (by decide) o6 rfl ?_
          refine ax_callN (pc' := 225) ⟨_, rfl⟩ ml_3_123 (rest := []) rfl (fun ss hs => ⟨_, _, (az_e 0 rfl) ss hs⟩) (Nat.le_of_ble_eq_true rfl) rfl rfl h (fun V1 hg1 h => ?_)
          refine ax_inc (x := x6) (pc' := 228) (L' := [some (.ref r), y1, some (ax_i x2), some (ax_i x3), some (ax_i x4), some (ax_i x5), some (ax_i (x6 + 1)), some (ax_i (V 535 (V 507 (((V 520 x2) * 26) + x6))))]) ⟨_, rfl⟩ rfl rfl rfl rfl ?_
          refine ax_mv 1 130 [some (.ref r), y1, some (ax_i x2), some (ax_i x3), some (ax_i x4), some (ax_i x5), some (ax_i (x6 + 1)), some (ax_i (V 535 (V 507 (((V 520 x2) * 26) + x6))))] [] rfl ?_
          exact h
        · have h := h.2 hc
          refine ax_mv 3 214 [some (.ref r), y1, some (ax_i x2), some (ax_i x3), some (ax_i x4), some (ax_i x5), some (ax_i x6), some (ax_i (V 535 (V 507 (((V 520 x2) * 26) + x6))))] [.ref r, ax_i 1, .ref r] rfl ?_
          refine ax_gR (v := .ref (B + 16)) (pc' := 217) ⟨_, rfl⟩ fl_3_25 (az_e 0 rfl) rfl rfl ?_
          refine ax_gR (v := .ref (B + 18)) (pc' := 220) ⟨_, rfl⟩ fl_3_227 (az_b 16 rfl) rfl rfl ?_
          refine ax_mv 1 221 [some (.ref r), y1, some (ax_i x2), some (ax_i x3), some (ax_i x4), some (ax_i x5), some (ax_i x6), some (ax_i (V 535 (V 507 (((V 520 x2) * 26) + x6))))] [ax_i x2, .ref (B + 18), ax_i 1, .ref r] rfl ?_
          obtain ⟨o7, h⟩ := h
          refine ax_ild (n := 700) (pc' := 222) ⟨_, rfl⟩ (az_b 18 rfl) (by decide) o7 rfl ?_
          refine ax_callN (pc' := 225) ⟨_, rfl⟩ ml_3_123 (rest := []) rfl (fun ss hs => ⟨_, _, (az_e 0 rfl) ss hs⟩) (Nat.le_of_ble_eq_true rfl) rfl rfl h (fun V2 hg2 h => ?_)
          refine ax_inc (x := x6) (pc' := 228) (L' := [some (.ref r), y1, some (ax_i x2), some (ax_i x3), some (ax_i x4), some (ax_i x5), some (ax_i (x6 + 1)), some (ax_i (V 535 (V 507 (((V 520 x2) * 26) + x6))))]) ⟨_, rfl⟩ rfl rfl rfl rfl ?_
          refine ax_mv 1 130 [some (.ref r), y1, some (ax_i x2), some (ax_i x3), some (ax_i x4), some (ax_i x5), some (ax_i (x6 + 1)), some (ax_i (V 535 (V 507 (((V 520 x2) * 26) + x6))))] [] rfl ?_
          exact h
set_option maxRecDepth 20000 in
theorem r_Judge_judgeEquationSorts {B : Nat} {r : Nat} {d : Nat} {V : ax_V} {Φ : ax_V → Prop} {Θ : ax_V → Prop} {x1 : Int} (hg : ax_g V) (hx1 : ax_rg x1) (h : (0 ≤ x1 ∧ x1 < 350) ∧ (0 ≤ x1 ∧ x1 < 351) ∧ (0 ≤ x1 + 1 ∧ x1 + 1 < 351) ∧ ax_rg ((V 548 (x1 + 1)) - (V 548 x1)) ∧ (((V 548 (x1 + 1)) - (V 548 x1) = 1 → (0 ≤ V 548 x1 ∧ V 548 x1 < 350) ∧ (0 ≤ V 554 (V 548 x1) ∧ V 554 (V 548 x1) < 208) ∧ ax_N (az_W B (az_EJ B r)) d q_Judge_mustBe [.ref r, ax_i (V 550 x1), ax_i (V 535 (V 554 (V 548 x1)))] V (fun V5 => Φ V5) Θ) ∧ (¬ (V 548 (x1 + 1)) - (V 548 x1) = 1 → ax_I (az_W B (az_EJ B r)) d q_Parts_isCall [.ref (B + 16), ax_i (V 550 x1)] V (fun r1 V1 => ((r1 = 0 → (0 ≤ V 550 x1 ∧ V 550 x1 < 700) ∧ ax_N (az_W B (az_EJ B r)) d q_Judge_blameIf [.ref r, ax_i 1, ax_i (V1 518 (V 550 x1))] V1 (fun V2 => k_Judge_judgeEquationSorts_130 B r d (some (ax_i x1)) (V 550 x1) (V 548 x1) ((V 548 (x1 + 1)) - (V 548 x1)) 0 0 none V2 Φ Θ) Θ) ∧ (¬ r1 = 0 → (0 ≤ V 550 x1 ∧ V 550 x1 < 700) ∧ (0 ≤ V1 520 (V 550 x1) ∧ V1 520 (V 550 x1) < 8) ∧ ax_rg ((V 548 (x1 + 1)) - (V 548 x1)) ∧ ((V1 504 (V1 520 (V 550 x1)) = (V 548 (x1 + 1)) - (V 548 x1) → (0 ≤ V 550 x1 ∧ V 550 x1 < 700) ∧ ax_N (az_W B (az_EJ B r)) d q_Judge_blameIf [.ref r, ax_i 0, ax_i (V1 518 (V 550 x1))] V1 (fun V4 => k_Judge_judgeEquationSorts_130 B r d (some (ax_i x1)) (V 550 x1) (V 548 x1) ((V 548 (x1 + 1)) - (V 548 x1)) 1 0 none V4 Φ Θ) Θ) ∧ (¬ V1 504 (V1 520 (V 550 x1)) = (V 548 (x1 + 1)) - (V 548 x1) → (0 ≤ V 550 x1 ∧ V 550 x1 < 700) ∧ ax_N (az_W B (az_EJ B r)) d q_Judge_blameIf [.ref r, ax_i 1, ax_i (V1 518 (V 550 x1))] V1 (fun V3 => k_Judge_judgeEquationSorts_130 B r d (some (ax_i x1)) (V 550 x1) (V 548 x1) ((V 548 (x1 + 1)) - (V 548 x1)) 0 0 none V3 Φ Θ) Θ))))) Θ))) : ax_N (az_W B (az_EJ B r)) (d + 1) q_Judge_judgeEquationSorts [.ref r, ax_i x1] V Φ Θ := by
  refine ax_T.of (M := m_Judge_judgeEquationSorts) rfl (Nat.le_of_ble_eq_true rfl) ?_
  refine ax_mv 0 0 [some (.ref r), some (ax_i x1), none, none, none, none, none, none] [] rfl ?_
  refine ax_mv 1 1 [some (.ref r), some (ax_i x1), none, none, none, none, none, none] [.ref r] rfl ?_
  refine ax_gR (v := .ref (B + 47)) (pc' := 4) ⟨_, rfl⟩ fl_3_35 (az_e 0 rfl) rfl rfl ?_
  refine ax_gR (v := .ref (B + 50)) (pc' := 7) ⟨_, rfl⟩ fl_3_245 (az_b 47 rfl) rfl rfl ?_
  refine ax_mv 1 8 [some (.ref r), some (ax_i x1), none, none, none, none, none, none] [ax_i x1, .ref (B + 50)] rfl ?_
  obtain ⟨o8, h⟩ := h
  refine ax_ild (n := 350) (pc' := 9) ⟨_, rfl⟩ (az_b 50 rfl) (by decide) o8 rfl ?_
  refine ax_sti (i := 0) (k := 2) (n := 1) (pc' := 10) (L' := [some (.ref r), some (ax_i x1), some (ax_i (V 550 x1)), none, none, none, none, none]) ⟨_, rfl⟩ rfl rfl rfl (Nat.le_of_ble_eq_true rfl) rfl rfl ?_
  refine ax_mv 1 11 [some (.ref r), some (ax_i x1), some (ax_i (V 550 x1)), none, none, none, none, none] [.ref r] rfl ?_
  refine ax_gR (v := .ref (B + 47)) (pc' := 14) ⟨_, rfl⟩ fl_3_35 (az_e 0 rfl) rfl rfl ?_
  refine ax_gR (v := .ref (B + 48)) (pc' := 17) ⟨_, rfl⟩ fl_3_97 (az_b 47 rfl) rfl rfl ?_
  refine ax_mv 1 18 [some (.ref r), some (ax_i x1), some (ax_i (V 550 x1)), none, none, none, none, none] [ax_i x1, .ref (B + 48)] rfl ?_
  obtain ⟨o9, h⟩ := h
  refine ax_ild (n := 351) (pc' := 19) ⟨_, rfl⟩ (az_b 48 rfl) (by decide) o9 rfl ?_
  refine ax_sti (i := 0) (k := 3) (n := 1) (pc' := 20) (L' := [some (.ref r), some (ax_i x1), some (ax_i (V 550 x1)), some (ax_i (V 548 x1)), none, none, none, none]) ⟨_, rfl⟩ rfl rfl rfl (Nat.le_of_ble_eq_true rfl) rfl rfl ?_
  refine ax_mv 1 21 [some (.ref r), some (ax_i x1), some (ax_i (V 550 x1)), some (ax_i (V 548 x1)), none, none, none, none] [.ref r] rfl ?_
  refine ax_gR (v := .ref (B + 47)) (pc' := 24) ⟨_, rfl⟩ fl_3_35 (az_e 0 rfl) rfl rfl ?_
  refine ax_gR (v := .ref (B + 48)) (pc' := 27) ⟨_, rfl⟩ fl_3_97 (az_b 47 rfl) rfl rfl ?_
  refine ax_mv 2 29 [some (.ref r), some (ax_i x1), some (ax_i (V 550 x1)), some (ax_i (V 548 x1)), none, none, none, none] [ax_i 1, ax_i x1, .ref (B + 48)] rfl ?_
  refine ax_add (pc' := 30) ⟨_, rfl⟩ rfl ?_
  obtain ⟨o10, h⟩ := h
  refine ax_ild (n := 351) (pc' := 31) ⟨_, rfl⟩ (az_b 48 rfl) (by decide) o10 rfl ?_
  refine ax_mv 1 32 [some (.ref r), some (ax_i x1), some (ax_i (V 550 x1)), some (ax_i (V 548 x1)), none, none, none, none] [ax_i (V 548 x1), ax_i (V 548 (x1 + 1))] rfl ?_
  refine ax_sub (pc' := 33) ⟨_, rfl⟩ rfl ?_
  refine ax_sti (i := 0) (k := 4) (n := 2) (pc' := 35) (L' := [some (.ref r), some (ax_i x1), some (ax_i (V 550 x1)), some (ax_i (V 548 x1)), some (ax_i ((V 548 (x1 + 1)) - (V 548 x1))), none, none, none]) ⟨_, rfl⟩ rfl rfl rfl (Nat.le_of_ble_eq_true rfl) rfl rfl ?_
  refine ax_mv 2 38 [some (.ref r), some (ax_i x1), some (ax_i (V 550 x1)), some (ax_i (V 548 x1)), some (ax_i ((V 548 (x1 + 1)) - (V 548 x1))), none, none, none] [ax_i 1, ax_i ((V 548 (x1 + 1)) - (V 548 x1))] rfl ?_
  obtain ⟨o11, h⟩ := h
  refine ax_if2 (p1 := 64) (p2 := 41) ⟨_, rfl⟩ (by decide) rfl o11 (by decide) (fun hc => ?_) (fun hc => ?_)
  · have h := h.2 hc
    refine ax_mv 1 65 [some (.ref r), some (ax_i x1), some (ax_i (V 550 x1)), some (ax_i (V 548 x1)), some (ax_i ((V 548 (x1 + 1)) - (V 548 x1))), none, none, none] [.ref r] rfl ?_
    refine ax_gR (v := .ref (B + 16)) (pc' := 68) ⟨_, rfl⟩ fl_3_25 (az_e 0 rfl) rfl rfl ?_
    refine ax_mv 1 69 [some (.ref r), some (ax_i x1), some (ax_i (V 550 x1)), some (ax_i (V 548 x1)), some (ax_i ((V 548 (x1 + 1)) - (V 548 x1))), none, none, none] [ax_i (V 550 x1), .ref (B + 16)] rfl ?_
    refine ax_callI (pc' := 72) ⟨_, rfl⟩ ml_3_218 (rest := []) rfl (fun ss hs => ⟨_, _, (az_b 16 rfl) ss hs⟩) (Nat.le_of_ble_eq_true rfl) rfl rfl h (fun r1 V1 hg1 hr1 h => ?_)
    refine ax_if (p1 := 101) (p2 := 75) ⟨_, rfl⟩ (by decide) rfl hr1 (fun hc => ?_) (fun hc => ?_)
    · have h := h.1 hc
      refine ax_mv 1 102 [some (.ref r), some (ax_i x1), some (ax_i (V 550 x1)), some (ax_i (V 548 x1)), some (ax_i ((V 548 (x1 + 1)) - (V 548 x1))), none, none, none] [ax_i 0] rfl ?_
      refine ax_sti (i := 0) (k := 5) (n := 2) (pc' := 104) (L' := [some (.ref r), some (ax_i x1), some (ax_i (V 550 x1)), some (ax_i (V 548 x1)), some (ax_i ((V 548 (x1 + 1)) - (V 548 x1))), some (ax_i 0), none, none]) ⟨_, rfl⟩ rfl rfl rfl (Nat.le_of_ble_eq_true rfl) rfl rfl ?_
      refine ax_mv 2 107 [some (.ref r), some (ax_i x1), some (ax_i (V 550 x1)), some (ax_i (V 548 x1)), some (ax_i ((V 548 (x1 + 1)) - (V 548 x1))), some (ax_i 0), none, none] [ax_i 0, .ref r] rfl ?_
      refine ax_if (p1 := 114) (p2 := 110) ⟨_, rfl⟩ (by decide) rfl (by decide) (fun hc => absurd hc (by unfold ax_k0; decide)) (fun _ => ?_)
      refine ax_mv 3 116 [some (.ref r), some (ax_i x1), some (ax_i (V 550 x1)), some (ax_i (V 548 x1)), some (ax_i ((V 548 (x1 + 1)) - (V 548 x1))), some (ax_i 0), none, none] [.ref r, ax_i 1, .ref r] rfl ?_
      refine ax_gR (v := .ref (B + 16)) (pc' := 119) ⟨_, rfl⟩ fl_3_25 (az_e 0 rfl) rfl rfl ?_
      refine ax_gR (v := .ref (B + 18)) (pc' := 122) ⟨_, rfl⟩ fl_3_227 (az_b 16 rfl) rfl rfl ?_
      refine ax_mv 1 123 [some (.ref r), some (ax_i x1), some (ax_i (V 550 x1)), some (ax_i (V 548 x1)), some (ax_i ((V 548 (x1 + 1)) - (V 548 x1))), some (ax_i 0), none, none] [ax_i (V 550 x1), .ref (B + 18), ax_i 1, .ref r] rfl ?_
      obtain ⟨o12, h⟩ := h
      refine ax_ild (n := 700) (pc' := 124) ⟨_, rfl⟩ (az_b 18 rfl) (by decide) o12 rfl ?_
      refine ax_callN (pc' := 127) ⟨_, rfl⟩ ml_3_123 (rest := []) rfl (fun ss hs => ⟨_, _, (az_e 0 rfl) ss hs⟩) (Nat.le_of_ble_eq_true rfl) rfl rfl h (fun V2 hg2 h => ?_)
      refine ax_mv 1 128 [some (.ref r), some (ax_i x1), some (ax_i (V 550 x1)), some (ax_i (V 548 x1)), some (ax_i ((V 548 (x1 + 1)) - (V 548 x1))), some (ax_i 0), none, none] [ax_i 0] rfl ?_
      refine ax_sti (i := 0) (k := 6) (n := 2) (pc' := 130) (L' := [some (.ref r), some (ax_i x1), some (ax_i (V 550 x1)), some (ax_i (V 548 x1)), some (ax_i ((V 548 (x1 + 1)) - (V 548 x1))), some (ax_i 0), some (ax_i 0), none]) ⟨_, rfl⟩ rfl rfl rfl (Nat.le_of_ble_eq_true rfl) rfl rfl ?_
      exact h
    · have h := h.2 hc
      refine ax_mv 1 76 [some (.ref r), some (ax_i x1), some (ax_i (V 550 x1)), some (ax_i (V 548 x1)), some (ax_i ((V 548 (x1 + 1)) - (V 548 x1))), none, none, none] [.ref r] rfl ?_
      refine ax_gR (v := .ref B) (pc' := 79) ⟨_, rfl⟩ fl_3_15 (az_e 0 rfl) rfl rfl ?_
      refine ax_gR (v := .ref (B + 4)) (pc' := 82) ⟨_, rfl⟩ fl_3_239 (az_b 0 rfl) rfl rfl ?_
      refine ax_mv 1 83 [some (.ref r), some (ax_i x1), some (ax_i (V 550 x1)), some (ax_i (V 548 x1)), some (ax_i ((V 548 (x1 + 1)) - (V 548 x1))), none, none, none] [.ref r, .ref (B + 4)] rfl ?_
      refine ax_gR (v := .ref (B + 16)) (pc' := 86) ⟨_, rfl⟩ fl_3_25 (az_e 0 rfl) rfl rfl ?_
      refine ax_gR (v := .ref (B + 20)) (pc' := 89) ⟨_, rfl⟩ fl_3_152 (az_b 16 rfl) rfl rfl ?_
      refine ax_mv 1 90 [some (.ref r), some (ax_i x1), some (ax_i (V 550 x1)), some (ax_i (V 548 x1)), some (ax_i ((V 548 (x1 + 1)) - (V 548 x1))), none, none, none] [ax_i (V 550 x1), .ref (B + 20), .ref (B + 4)] rfl ?_
      obtain ⟨o13, h⟩ := h
      refine ax_ild (n := 700) (pc' := 91) ⟨_, rfl⟩ (az_b 20 rfl) (by decide) o13 rfl ?_
      obtain ⟨o14, h⟩ := h
      refine ax_ild (n := 8) (pc' := 92) ⟨_, rfl⟩ (az_b 4 rfl) (by decide) o14 rfl ?_
      refine ax_mv 1 94 [some (.ref r), some (ax_i x1), some (ax_i (V 550 x1)), some (ax_i (V 548 x1)), some (ax_i ((V 548 (x1 + 1)) - (V 548 x1))), none, none, none] [ax_i ((V 548 (x1 + 1)) - (V 548 x1)), ax_i (V1 504 (V1 520 (V 550 x1)))] rfl ?_
      obtain ⟨o15, h⟩ := h
      refine ax_if2 (p1 := 101) (p2 := 97) ⟨_, rfl⟩ (by decide) rfl (hg1 _ _) o15 (fun hc => ?_) (fun hc => ?_)
      · have h := h.2 hc
        refine ax_mv 1 102 [some (.ref r), some (ax_i x1), some (ax_i (V 550 x1)), some (ax_i (V 548 x1)), some (ax_i ((V 548 (x1 + 1)) - (V 548 x1))), none, none, none] [ax_i 0] rfl ?_
        refine ax_sti (i := 0) (k := 5) (n := 2) (pc' := 104) (L' := [some (.ref r), some (ax_i x1), some (ax_i (V 550 x1)), some (ax_i (V 548 x1)), some (ax_i ((V 548 (x1 + 1)) - (V 548 x1))), some (ax_i 0), none, none]) ⟨_, rfl⟩ rfl rfl rfl (Nat.le_of_ble_eq_true rfl) rfl rfl ?_
        refine ax_mv 2 107 [some (.ref r), some (ax_i x1), some (ax_i (V 550 x1)), some (ax_i (V 548 x1)), some (ax_i ((V 548 (x1 + 1)) - (V 548 x1))), some (ax_i 0), none, none] [ax_i 0, .ref r] rfl ?_
        refine ax_if (p1 := 114) (p2 := 110) ⟨_, rfl⟩ (by decide) rfl (by decide) (fun hc => absurd hc (by unfold ax_k0; decide)) (fun _ => ?_)
        refine ax_mv 3 116 [some (.ref r), some (ax_i x1), some (ax_i (V 550 x1)), some (ax_i (V 548 x1)), some (ax_i ((V 548 (x1 + 1)) - (V 548 x1))), some (ax_i 0), none, none] [.ref r, ax_i 1, .ref r] rfl ?_
        refine ax_gR (v := .ref (B + 16)) (pc' := 119) ⟨_, rfl⟩ fl_3_25 (az_e 0 rfl) rfl rfl ?_
        refine ax_gR (v := .ref (B + 18)) (pc' := 122) ⟨_, rfl⟩ fl_3_227 (az_b 16 rfl) rfl rfl ?_
        refine ax_mv 1 123 [some (.ref r), some (ax_i x1), some (ax_i (V 550 x1)), some (ax_i (V 548 x1)), some (ax_i ((V 548 (x1 + 1)) - (V 548 x1))), some (ax_i 0), none, none] [ax_i (V 550 x1), .ref (B + 18), ax_i 1, .ref r] rfl ?_
        obtain ⟨o16, h⟩ := h
        refine ax_ild (n := 700) (pc' := 124) ⟨_, rfl⟩ (az_b 18 rfl) (by decide) o16 rfl ?_
        refine ax_callN (pc' := 127) ⟨_, rfl⟩ ml_3_123 (rest := []) rfl (fun ss hs => ⟨_, _, (az_e 0 rfl) ss hs⟩) (Nat.le_of_ble_eq_true rfl) rfl rfl h (fun V3 hg3 h => ?_)
        refine ax_mv 1 128 [some (.ref r), some (ax_i x1), some (ax_i (V 550 x1)), some (ax_i (V 548 x1)), some (ax_i ((V 548 (x1 + 1)) - (V 548 x1))), some (ax_i 0), none, none] [ax_i 0] rfl ?_
        refine ax_sti (i := 0) (k := 6) (n := 2) (pc' := 130) (L' := [some (.ref r), some (ax_i x1), some (ax_i (V 550 x1)), some (ax_i (V 548 x1)), some (ax_i ((V 548 (x1 + 1)) - (V 548 x1))), some (ax_i 0), some (ax_i 0), none]) ⟨_, rfl⟩ rfl rfl rfl (Nat.le_of_ble_eq_true rfl) rfl rfl ?_
        exact h
      · have h := h.1 (Classical.not_not.mp hc)
        refine ax_mv 2 102 [some (.ref r), some (ax_i x1), some (ax_i (V 550 x1)), some (ax_i (V 548 x1)), some (ax_i ((V 548 (x1 + 1)) - (V 548 x1))), none, none, none] [ax_i 1] rfl ?_
        refine ax_sti (i := 0) (k := 5) (n := 2) (pc' := 104) (L' := [some (.ref r), some (ax_i x1), some (ax_i (V 550 x1)), some (ax_i (V 548 x1)), some (ax_i ((V 548 (x1 + 1)) - (V 548 x1))), some (ax_i 1), none, none]) ⟨_, rfl⟩ rfl rfl rfl (Nat.le_of_ble_eq_true rfl) rfl rfl ?_
        refine ax_mv 2 107 [some (.ref r), some (ax_i x1), some (ax_i (V 550 x1)), some (ax_i (V 548 x1)), some (ax_i ((V 548 (x1 + 1)) - (V 548 x1))), some (ax_i 1), none, none] [ax_i 1, .ref r] rfl ?_
        refine ax_if (p1 := 114) (p2 := 110) ⟨_, rfl⟩ (by decide) rfl (by decide) (fun _ => ?_) (fun hc => absurd (by unfold ax_k0; decide) hc)
        refine ax_mv 2 116 [some (.ref r), some (ax_i x1), some (ax_i (V 550 x1)), some (ax_i (V 548 x1)), some (ax_i ((V 548 (x1 + 1)) - (V 548 x1))), some (ax_i 1), none, none] [.ref r, ax_i 0, .ref r] rfl ?_
        refine ax_gR (v := .ref (B + 16)) (pc' := 119) ⟨_, rfl⟩ fl_3_25 (az_e 0 rfl) rfl rfl ?_
        refine ax_gR (v := .ref (B + 18)) (pc' := 122) ⟨_, rfl⟩ fl_3_227 (az_b 16 rfl) rfl rfl ?_
        refine ax_mv 1 123 [some (.ref r), some (ax_i x1), some (ax_i (V 550 x1)), some (ax_i (V 548 x1)), some (ax_i ((V 548 (x1 + 1)) - (V 548 x1))), some (ax_i 1), none, none] [ax_i (V 550 x1), .ref (B + 18), ax_i 0, .ref r] rfl ?_
        obtain ⟨o17, h⟩ := h
        refine ax_ild (n := 700) (pc' := 124) ⟨_, rfl⟩ (az_b 18 rfl) (by decide) o17 rfl ?_
        refine ax_callN (pc' := 127) ⟨_, rfl⟩ ml_3_123 (rest := []) rfl (fun ss hs => ⟨_, _, (az_e 0 rfl) ss hs⟩) (Nat.le_of_ble_eq_true rfl) rfl rfl h (fun V4 hg4 h => ?_)
        refine ax_mv 1 128 [some (.ref r), some (ax_i x1), some (ax_i (V 550 x1)), some (ax_i (V 548 x1)), some (ax_i ((V 548 (x1 + 1)) - (V 548 x1))), some (ax_i 1), none, none] [ax_i 0] rfl ?_
        refine ax_sti (i := 0) (k := 6) (n := 2) (pc' := 130) (L' := [some (.ref r), some (ax_i x1), some (ax_i (V 550 x1)), some (ax_i (V 548 x1)), some (ax_i ((V 548 (x1 + 1)) - (V 548 x1))), some (ax_i 1), some (ax_i 0), none]) ⟨_, rfl⟩ rfl rfl rfl (Nat.le_of_ble_eq_true rfl) rfl rfl ?_
        exact h
  · have h := h.1 (Classical.not_not.mp hc)
    refine ax_mv 3 44 [some (.ref r), some (ax_i x1), some (ax_i (V 550 x1)), some (ax_i (V 548 x1)), some (ax_i ((V 548 (x1 + 1)) - (V 548 x1))), none, none, none] [.ref r, ax_i (V 550 x1), .ref r] rfl ?_
    refine ax_gR (v := .ref (B + 32)) (pc' := 47) ⟨_, rfl⟩ fl_3_30 (az_e 0 rfl) rfl rfl ?_
    refine ax_gR (v := .ref (B + 35)) (pc' := 50) ⟨_, rfl⟩ fl_3_91 (az_b 32 rfl) rfl rfl ?_
    refine ax_mv 1 51 [some (.ref r), some (ax_i x1), some (ax_i (V 550 x1)), some (ax_i (V 548 x1)), some (ax_i ((V 548 (x1 + 1)) - (V 548 x1))), none, none, none] [.ref r, .ref (B + 35), ax_i (V 550 x1), .ref r] rfl ?_
    refine ax_gR (v := .ref (B + 47)) (pc' := 54) ⟨_, rfl⟩ fl_3_35 (az_e 0 rfl) rfl rfl ?_
    refine ax_gR (v := .ref (B + 54)) (pc' := 57) ⟨_, rfl⟩ fl_3_102 (az_b 47 rfl) rfl rfl ?_
    refine ax_mv 1 58 [some (.ref r), some (ax_i x1), some (ax_i (V 550 x1)), some (ax_i (V 548 x1)), some (ax_i ((V 548 (x1 + 1)) - (V 548 x1))), none, none, none] [ax_i (V 548 x1), .ref (B + 54), .ref (B + 35), ax_i (V 550 x1), .ref r] rfl ?_
    obtain ⟨o18, h⟩ := h
    refine ax_ild (n := 350) (pc' := 59) ⟨_, rfl⟩ (az_b 54 rfl) (by decide) o18 rfl ?_
    obtain ⟨o19, h⟩ := h
    refine ax_ild (n := 208) (pc' := 60) ⟨_, rfl⟩ (az_b 35 rfl) (by decide) o19 rfl ?_
    refine ax_callN (pc' := 63) ⟨_, rfl⟩ ml_3_212 (rest := []) rfl (fun ss hs => ⟨_, _, (az_e 0 rfl) ss hs⟩) (Nat.le_of_ble_eq_true rfl) rfl rfl h (fun V5 hg5 h => ?_)
    exact ax_nret ⟨_, rfl⟩ rfl hg5 h
abbrev k_Judge_judgeRings_5 (B : Nat) (r : Nat) (d : Nat) (x1 : Int) (x2 : Int) (y3 : Option Value) (y4 : Option Value) (V : ax_V) (Φ : ax_V → Prop) (Θ : ax_V → Prop) : Prop := ax_R (az_W B (az_EJ B r)) ax_t d m_Judge_judgeRings 5 [some (.ref r), some (ax_i x1), some (ax_i x2), y3, y4] [] V (ax_Nr Φ) Θ
abbrev k_Judge_judgeRings_28 (B : Nat) (r : Nat) (d : Nat) (x1 : Int) (x2 : Int) (x3 : Int) (x4 : Int) (V : ax_V) (Φ : ax_V → Prop) (Θ : ax_V → Prop) : Prop := ax_R (az_W B (az_EJ B r)) ax_t d m_Judge_judgeRings 28 [some (.ref r), some (ax_i x1), some (ax_i x2), some (ax_i x3), some (ax_i x4)] [] V (ax_Nr Φ) Θ
theorem r_Judge_judgeRings_5 {B : Nat} {r : Nat} {d : Nat} {V : ax_V} {Φ : ax_V → Prop} {Θ : ax_V → Prop} {x1 : Int} {x2 : Int} {y3 : Option Value} {y4 : Option Value} (hg : ax_g V) (hx1 : ax_rg x1) (hx2 : ax_rg x2) (hy3 : ax_y y3) (hy4 : ax_y y4) (h : ax_rg ((x1 + 1) * 26) ∧ (((x1 + 1) * 26 ≤ x2 → Φ V) ∧ (x2 < (x1 + 1) * 26 → (0 ≤ x2 ∧ x2 < 208) ∧ k_Judge_judgeRings_28 B r d x1 x2 (V 536 x2) 0 V Φ Θ))) : k_Judge_judgeRings_5 B r d x1 x2 y3 y4 V Φ Θ := by
  refine ax_mv 3 8 [some (.ref r), some (ax_i x1), some (ax_i x2), y3, y4] [ax_i 1, ax_i x1, ax_i x2] rfl ?_
  refine ax_add (pc' := 9) ⟨_, rfl⟩ rfl ?_
  refine ax_bip (pc' := 11) ⟨_, rfl⟩ (by decide) rfl ?_
  refine ax_mul (pc' := 12) ⟨_, rfl⟩ rfl ?_
  obtain ⟨o1, h⟩ := h
  refine ax_if2 (p1 := 88) (p2 := 15) ⟨_, rfl⟩ (by decide) rfl hx2 o1 (fun hc => ?_) (fun hc => ?_)
  · have h := h.1 hc
    exact ax_nret ⟨_, rfl⟩ rfl hg h
  · have h := h.2 (Int.not_le.mp hc)
    refine ax_mv 1 16 [some (.ref r), some (ax_i x1), some (ax_i x2), y3, y4] [.ref r] rfl ?_
    refine ax_gR (v := .ref (B + 32)) (pc' := 19) ⟨_, rfl⟩ fl_3_30 (az_e 0 rfl) rfl rfl ?_
    refine ax_gR (v := .ref (B + 36)) (pc' := 22) ⟨_, rfl⟩ fl_3_193 (az_b 32 rfl) rfl rfl ?_
    refine ax_mv 1 23 [some (.ref r), some (ax_i x1), some (ax_i x2), y3, y4] [ax_i x2, .ref (B + 36)] rfl ?_
    obtain ⟨o2, h⟩ := h
    refine ax_ild (n := 208) (pc' := 24) ⟨_, rfl⟩ (az_b 36 rfl) (by decide) o2 rfl ?_
    refine ax_sti (i := 0) (k := 3) (n := 1) (pc' := 25) (L' := [some (.ref r), some (ax_i x1), some (ax_i x2), some (ax_i (V 536 x2)), y4]) ⟨_, rfl⟩ rfl rfl rfl (Nat.le_of_ble_eq_true rfl) rfl rfl ?_
    refine ax_mv 1 26 [some (.ref r), some (ax_i x1), some (ax_i x2), some (ax_i (V 536 x2)), y4] [ax_i 0] rfl ?_
    refine ax_sti (i := 0) (k := 4) (n := 2) (pc' := 28) (L' := [some (.ref r), some (ax_i x1), some (ax_i x2), some (ax_i (V 536 x2)), some (ax_i 0)]) ⟨_, rfl⟩ rfl rfl rfl (Nat.le_of_ble_eq_true rfl) rfl rfl ?_
    exact h
theorem r_Judge_judgeRings_28 {B : Nat} {r : Nat} {d : Nat} {V : ax_V} {Φ : ax_V → Prop} {Θ : ax_V → Prop} {x1 : Int} {x2 : Int} {x3 : Int} {x4 : Int} (hg : ax_g V) (hx1 : ax_rg x1) (hx2 : ax_rg x2) (hx3 : ax_rg x3) (hx4 : ax_rg x4) (h : ((26 ≤ x4 → k_Judge_judgeRings_5 B r d x1 (x2 + 1) (some (ax_i x3)) (some (ax_i x4)) V Φ Θ) ∧ (x4 < 26 → ((x3 < 0 → k_Judge_judgeRings_5 B r d x1 (x2 + 1) (some (ax_i x3)) (some (ax_i x4)) V Φ Θ) ∧ (0 ≤ x3 → ((ax_shr x3 1 = x2 → (0 ≤ x2 ∧ x2 < 208) ∧ ax_N (az_W B (az_EJ B r)) d q_Judge_blameIf [.ref r, ax_i 1, ax_i (V 533 x2)] V (fun V2 => (0 ≤ ax_shr x3 1 ∧ ax_shr x3 1 < 208) ∧ k_Judge_judgeRings_28 B r d x1 x2 (V2 536 (ax_shr x3 1)) (x4 + 1) V2 Φ Θ) Θ) ∧ (¬ ax_shr x3 1 = x2 → (0 ≤ x2 ∧ x2 < 208) ∧ ax_N (az_W B (az_EJ B r)) d q_Judge_blameIf [.ref r, ax_i 0, ax_i (V 533 x2)] V (fun V1 => (0 ≤ ax_shr x3 1 ∧ ax_shr x3 1 < 208) ∧ k_Judge_judgeRings_28 B r d x1 x2 (V1 536 (ax_shr x3 1)) (x4 + 1) V1 Φ Θ) Θ))))))) : k_Judge_judgeRings_28 B r d x1 x2 x3 x4 V Φ Θ := by
  refine ax_mv 1 30 [some (.ref r), some (ax_i x1), some (ax_i x2), some (ax_i x3), some (ax_i x4)] [ax_i x4] rfl ?_
  refine ax_bip (pc' := 32) ⟨_, rfl⟩ (by decide) rfl ?_
  refine ax_if2 (p1 := 82) (p2 := 35) ⟨_, rfl⟩ (by decide) rfl hx4 (by decide) (fun hc => ?_) (fun hc => ?_)
  · have h := h.1 hc
    refine ax_inc (x := x2) (pc' := 85) (L' := [some (.ref r), some (ax_i x1), some (ax_i (x2 + 1)), some (ax_i x3), some (ax_i x4)]) ⟨_, rfl⟩ rfl rfl rfl rfl ?_
    refine ax_mv 1 5 [some (.ref r), some (ax_i x1), some (ax_i (x2 + 1)), some (ax_i x3), some (ax_i x4)] [] rfl ?_
    exact h
  · have h := h.2 (Int.not_le.mp hc)
    refine ax_mv 1 36 [some (.ref r), some (ax_i x1), some (ax_i x2), some (ax_i x3), some (ax_i x4)] [ax_i x3] rfl ?_
    refine ax_if (p1 := 82) (p2 := 39) ⟨_, rfl⟩ (by decide) rfl hx3 (fun hc => ?_) (fun hc => ?_)
    · have h := h.1 hc
      refine ax_inc (x := x2) (pc' := 85) (L' := [some (.ref r), some (ax_i x1), some (ax_i (x2 + 1)), some (ax_i x3), some (ax_i x4)]) ⟨_, rfl⟩ rfl rfl rfl rfl ?_
      refine ax_mv 1 5 [some (.ref r), some (ax_i x1), some (ax_i (x2 + 1)), some (ax_i x3), some (ax_i x4)] [] rfl ?_
      exact h
    · have h := h.2 (Int.not_lt.mp hc)
      refine ax_mv 3 42 [some (.ref r), some (ax_i x1), some (ax_i x2), some (ax_i x3), some (ax_i x4)] [ax_i 1, ax_i x3, .ref r] rfl ?_
      refine ax_rshr (pc' := 43) ⟨_, rfl⟩ rfl ?_
      refine ax_mv 1 44 [some (.ref r), some (ax_i x1), some (ax_i x2), some (ax_i x3), some (ax_i x4)] [ax_i x2, ax_i (ax_shr x3 1), .ref r] rfl ?_
      refine ax_if2 (p1 := 51) (p2 := 47) ⟨_, rfl⟩ (by decide) rfl (ax_rg_of _) hx2 (fun hc => ?_) (fun hc => ?_)
      · have h := h.2 hc
        refine ax_mv 2 53 [some (.ref r), some (ax_i x1), some (ax_i x2), some (ax_i x3), some (ax_i x4)] [.ref r, ax_i 0, .ref r] rfl ?_
        refine ax_gR (v := .ref (B + 32)) (pc' := 56) ⟨_, rfl⟩ fl_3_30 (az_e 0 rfl) rfl rfl ?_
        refine ax_gR (v := .ref (B + 33)) (pc' := 59) ⟨_, rfl⟩ fl_3_85 (az_b 32 rfl) rfl rfl ?_
        refine ax_mv 1 60 [some (.ref r), some (ax_i x1), some (ax_i x2), some (ax_i x3), some (ax_i x4)] [ax_i x2, .ref (B + 33), ax_i 0, .ref r] rfl ?_
        obtain ⟨o3, h⟩ := h
        refine ax_ild (n := 208) (pc' := 61) ⟨_, rfl⟩ (az_b 33 rfl) (by decide) o3 rfl ?_
        refine ax_callN (pc' := 64) ⟨_, rfl⟩ ml_3_123 (rest := []) rfl (fun ss hs => ⟨_, _, (az_e 0 rfl) ss hs⟩) (Nat.le_of_ble_eq_true rfl) rfl rfl h (fun V1 hg1 h => ?_)
        refine ax_mv 1 65 [some (.ref r), some (ax_i x1), some (ax_i x2), some (ax_i x3), some (ax_i x4)] [.ref r] rfl ?_
        refine ax_gR (v := .ref (B + 32)) (pc' := 68) ⟨_, rfl⟩ fl_3_30 (az_e 0 rfl) rfl rfl ?_
        refine ax_gR (v := .ref (B + 36)) (pc' := 71) ⟨_, rfl⟩ fl_3_193 (az_b 32 rfl) rfl rfl ?_
        refine ax_mv 2 73 [some (.ref r), some (ax_i x1), some (ax_i x2), some (ax_i x3), some (ax_i x4)] [ax_i 1, ax_i x3, .ref (B + 36)] rfl ?_
        refine ax_rshr (pc' := 74) ⟨_, rfl⟩ rfl ?_
        obtain ⟨o4, h⟩ := h
        refine ax_ild (n := 208) (pc' := 75) ⟨_, rfl⟩ (az_b 36 rfl) (by decide) o4 rfl ?_
        refine ax_sti (i := 0) (k := 3) (n := 1) (pc' := 76) (L' := [some (.ref r), some (ax_i x1), some (ax_i x2), some (ax_i (V1 536 (ax_shr x3 1))), some (ax_i x4)]) ⟨_, rfl⟩ rfl rfl rfl (Nat.le_of_ble_eq_true rfl) rfl rfl ?_
        refine ax_inc (x := x4) (pc' := 79) (L' := [some (.ref r), some (ax_i x1), some (ax_i x2), some (ax_i (V1 536 (ax_shr x3 1))), some (ax_i (x4 + 1))]) ⟨_, rfl⟩ rfl rfl rfl rfl ?_
        refine ax_mv 1 28 [some (.ref r), some (ax_i x1), some (ax_i x2), some (ax_i (V1 536 (ax_shr x3 1))), some (ax_i (x4 + 1))] [] rfl ?_
        exact h
      · have h := h.1 (Classical.not_not.mp hc)
        refine ax_mv 3 53 [some (.ref r), some (ax_i x1), some (ax_i x2), some (ax_i x3), some (ax_i x4)] [.ref r, ax_i 1, .ref r] rfl ?_
        refine ax_gR (v := .ref (B + 32)) (pc' := 56) ⟨_, rfl⟩ fl_3_30 (az_e 0 rfl) rfl rfl ?_
        refine ax_gR (v := .ref (B + 33)) (pc' := 59) ⟨_, rfl⟩ fl_3_85 (az_b 32 rfl) rfl rfl ?_
        refine ax_mv 1 60 [some (.ref r), some (ax_i x1), some (ax_i x2), some (ax_i x3), some (ax_i x4)] [ax_i x2, .ref (B + 33), ax_i 1, .ref r] rfl ?_
        obtain ⟨o5, h⟩ := h
        refine ax_ild (n := 208) (pc' := 61) ⟨_, rfl⟩ (az_b 33 rfl) (by decide) o5 rfl ?_
        refine ax_callN (pc' := 64) ⟨_, rfl⟩ ml_3_123 (rest := []) rfl (fun ss hs => ⟨_, _, (az_e 0 rfl) ss hs⟩) (Nat.le_of_ble_eq_true rfl) rfl rfl h (fun V2 hg2 h => ?_)
        refine ax_mv 1 65 [some (.ref r), some (ax_i x1), some (ax_i x2), some (ax_i x3), some (ax_i x4)] [.ref r] rfl ?_
        refine ax_gR (v := .ref (B + 32)) (pc' := 68) ⟨_, rfl⟩ fl_3_30 (az_e 0 rfl) rfl rfl ?_
        refine ax_gR (v := .ref (B + 36)) (pc' := 71) ⟨_, rfl⟩ fl_3_193 (az_b 32 rfl) rfl rfl ?_
        refine ax_mv 2 73 [some (.ref r), some (ax_i x1), some (ax_i x2), some (ax_i x3), some (ax_i x4)] [ax_i 1, ax_i x3, .ref (B + 36)] rfl ?_
        refine ax_rshr (pc' := 74) ⟨_, rfl⟩ rfl ?_
        obtain ⟨o6, h⟩ := h
        refine ax_ild (n := 208) (pc' := 75) ⟨_, rfl⟩ (az_b 36 rfl) (by decide) o6 rfl ?_
        refine ax_sti (i := 0) (k := 3) (n := 1) (pc' := 76) (L' := [some (.ref r), some (ax_i x1), some (ax_i x2), some (ax_i (V2 536 (ax_shr x3 1))), some (ax_i x4)]) ⟨_, rfl⟩ rfl rfl rfl (Nat.le_of_ble_eq_true rfl) rfl rfl ?_
        refine ax_inc (x := x4) (pc' := 79) (L' := [some (.ref r), some (ax_i x1), some (ax_i x2), some (ax_i (V2 536 (ax_shr x3 1))), some (ax_i (x4 + 1))]) ⟨_, rfl⟩ rfl rfl rfl rfl ?_
        refine ax_mv 1 28 [some (.ref r), some (ax_i x1), some (ax_i x2), some (ax_i (V2 536 (ax_shr x3 1))), some (ax_i (x4 + 1))] [] rfl ?_
        exact h
theorem r_Judge_judgeRings {B : Nat} {r : Nat} {d : Nat} {V : ax_V} {Φ : ax_V → Prop} {Θ : ax_V → Prop} {x1 : Int} (hg : ax_g V) (hx1 : ax_rg x1) (h : k_Judge_judgeRings_5 B r d x1 (x1 * 26) none none V Φ Θ) : ax_N (az_W B (az_EJ B r)) (d + 1) q_Judge_judgeRings [.ref r, ax_i x1] V Φ Θ := by
  refine ax_T.of (M := m_Judge_judgeRings) rfl (Nat.le_of_ble_eq_true rfl) ?_
  refine ax_mv 0 0 [some (.ref r), some (ax_i x1), none, none, none] [] rfl ?_
  refine ax_mv 1 1 [some (.ref r), some (ax_i x1), none, none, none] [ax_i x1] rfl ?_
  refine ax_bip (pc' := 3) ⟨_, rfl⟩ (by decide) rfl ?_
  refine ax_mul (pc' := 4) ⟨_, rfl⟩ rfl ?_
  refine ax_sti (i := 0) (k := 2) (n := 1) (pc' := 5) (L' := [some (.ref r), some (ax_i x1), some (ax_i (x1 * 26)), none, none]) ⟨_, rfl⟩ rfl rfl rfl (Nat.le_of_ble_eq_true rfl) rfl rfl ?_
  exact h
