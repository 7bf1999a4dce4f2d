/-! RULES of the methods of the class: a method each, and each loop of it. PRINTED by wip/gen/rules.py -/
theorem r_Program_has {B : Nat} {E : List (Nat × ax_S)} {d : Nat} {V : ax_V} {Φ : Int → ax_V → Prop} {Θ : ax_V → Prop} {x1 : Int} (hg : ax_g V) (hx1 : ax_rg x1) (h : ((x1 < 0 → Φ 0 V) ∧ (0 ≤ x1 → ((V 500 0 ≤ x1 → Φ 0 V) ∧ (x1 < V 500 0 → Φ 1 V))))) : ax_I (az_W B E) (d + 1) q_Program_has [.ref B, ax_i x1] V Φ Θ := by
  refine ax_T.of (M := m_Program_has) rfl (Nat.le_of_ble_eq_true rfl) ?_
  refine ax_mv 0 0 [some (.ref B), some (ax_i x1)] [] rfl ?_
  refine ax_mv 1 1 [some (.ref B), some (ax_i x1)] [ax_i x1] rfl ?_
  refine ax_if (p1 := 16) (p2 := 4) ⟨_, rfl⟩ (by decide) rfl hx1 (fun hc => ?_) (fun hc => ?_)
  · have h := h.1 hc
    refine ax_mv 1 17 [some (.ref B), some (ax_i x1)] [ax_i 0] rfl ?_
    exact ax_iret ⟨_, rfl⟩ rfl (ax_nbv (by decide)) (by decide) hg h
  · have h := h.2 (Int.not_lt.mp hc)
    refine ax_mv 2 6 [some (.ref B), some (ax_i x1)] [.ref B, ax_i x1] rfl ?_
    refine ax_gI (kI := 0) (pc' := 9) ⟨_, rfl⟩ fl_8_85 (az_b 0 rfl) rfl rfl rfl ?_
    refine ax_if2 (p1 := 16) (p2 := 12) ⟨_, rfl⟩ (by decide) rfl hx1 (hg _ _) (fun hc => ?_) (fun hc => ?_)
    · have h := h.1 hc
      refine ax_mv 1 17 [some (.ref B), some (ax_i x1)] [ax_i 0] rfl ?_
      exact ax_iret ⟨_, rfl⟩ rfl (ax_nbv (by decide)) (by decide) hg h
    · have h := h.2 (Int.not_le.mp hc)
      refine ax_mv 2 17 [some (.ref B), some (ax_i x1)] [ax_i 1] rfl ?_
      exact ax_iret ⟨_, rfl⟩ rfl (ax_nbv (by decide)) (by decide) hg h
theorem r_Program_canMake {B : Nat} {E : List (Nat × ax_S)} {d : Nat} {V : ax_V} {Φ : Int → ax_V → Prop} {Θ : ax_V → Prop} {x1 : Int} (hg : ax_g V) (hx1 : ax_rg x1) (h : ax_I (az_W B E) d q_Program_has [.ref B, ax_i x1] V (fun r1 V1 => ((r1 = 0 → Φ 0 V1) ∧ (¬ r1 = 0 → (0 ≤ x1 ∧ x1 < 8) ∧ ((60 < V1 513 x1 → Φ 0 V1) ∧ (V1 513 x1 ≤ 60 → (0 ≤ x1 ∧ x1 < 8) ∧ ((300 < V1 514 x1 → Φ 0 V1) ∧ (V1 514 x1 ≤ 300 → Φ 1 V1))))))) Θ) : ax_I (az_W B E) (d + 1) q_Program_canMake [.ref B, ax_i x1] V Φ Θ := by
  refine ax_T.of (M := m_Program_canMake) rfl (Nat.le_of_ble_eq_true rfl) ?_
  refine ax_mv 0 0 [some (.ref B), some (ax_i x1)] [] rfl ?_
  refine ax_mv 2 2 [some (.ref B), some (ax_i x1)] [ax_i x1, .ref B] rfl ?_
  refine ax_callI (pc' := 5) ⟨_, rfl⟩ ml_8_112 (rest := []) rfl (fun ss hs => ⟨_, _, (az_b 0 rfl) ss hs⟩) (Nat.le_of_ble_eq_true rfl) rfl rfl h (fun r1 V1 hg1 hr1 h => ?_)
  refine ax_if (p1 := 35) (p2 := 8) ⟨_, rfl⟩ (by decide) rfl hr1 (fun hc => ?_) (fun hc => ?_)
  · have h := h.1 hc
    refine ax_mv 1 36 [some (.ref B), some (ax_i x1)] [ax_i 0] rfl ?_
    exact ax_iret ⟨_, rfl⟩ rfl (ax_nbv (by decide)) (by decide) hg1 h
  · have h := h.2 hc
    refine ax_mv 1 9 [some (.ref B), some (ax_i x1)] [.ref B] rfl ?_
    refine ax_gR (v := .ref (B + 13)) (pc' := 12) ⟨_, rfl⟩ fl_8_48 (az_b 0 rfl) rfl rfl ?_
    refine ax_mv 1 13 [some (.ref B), some (ax_i x1)] [ax_i x1, .ref (B + 13)] rfl ?_
    obtain ⟨o1, h⟩ := h
    refine ax_ild (n := 8) (pc' := 14) ⟨_, rfl⟩ (az_b 13 rfl) (by decide) o1 rfl ?_
    refine ax_bip (pc' := 16) ⟨_, rfl⟩ (by decide) rfl ?_
    refine ax_if2 (p1 := 35) (p2 := 19) ⟨_, rfl⟩ (by decide) rfl (hg1 _ _) (by decide) (fun hc => ?_) (fun hc => ?_)
    · have h := h.1 hc
      refine ax_mv 1 36 [some (.ref B), some (ax_i x1)] [ax_i 0] rfl ?_
      exact ax_iret ⟨_, rfl⟩ rfl (ax_nbv (by decide)) (by decide) hg1 h
    · have h := h.2 (Int.not_lt.mp hc)
      refine ax_mv 1 20 [some (.ref B), some (ax_i x1)] [.ref B] rfl ?_
      refine ax_gR (v := .ref (B + 14)) (pc' := 23) ⟨_, rfl⟩ fl_8_51 (az_b 0 rfl) rfl rfl ?_
      refine ax_mv 1 24 [some (.ref B), some (ax_i x1)] [ax_i x1, .ref (B + 14)] rfl ?_
      obtain ⟨o2, h⟩ := h
      refine ax_ild (n := 8) (pc' := 25) ⟨_, rfl⟩ (az_b 14 rfl) (by decide) o2 rfl ?_
      refine ax_sip (pc' := 28) ⟨_, rfl⟩ (by decide) rfl ?_
      refine ax_if2 (p1 := 35) (p2 := 31) ⟨_, rfl⟩ (by decide) rfl (hg1 _ _) (by decide) (fun hc => ?_) (fun hc => ?_)
      · have h := h.1 hc
        refine ax_mv 1 36 [some (.ref B), some (ax_i x1)] [ax_i 0] rfl ?_
        exact ax_iret ⟨_, rfl⟩ rfl (ax_nbv (by decide)) (by decide) hg1 h
      · have h := h.2 (Int.not_lt.mp hc)
        refine ax_mv 2 36 [some (.ref B), some (ax_i x1)] [ax_i 1] rfl ?_
        exact ax_iret ⟨_, rfl⟩ rfl (ax_nbv (by decide)) (by decide) hg1 h
theorem r_Parts_isCall {B : Nat} {E : List (Nat × ax_S)} {d : Nat} {V : ax_V} {Φ : Int → ax_V → Prop} {Θ : ax_V → Prop} {x1 : Int} (hg : ax_g V) (hx1 : ax_rg x1) (h : (0 ≤ x1 ∧ x1 < 700) ∧ ((V 517 x1 = 22 → (0 ≤ x1 ∧ x1 < 700) ∧ ((V 520 x1 < 0 → Φ 0 V) ∧ (0 ≤ V 520 x1 → (0 ≤ x1 ∧ x1 < 700) ∧ ((8 ≤ V 520 x1 → Φ 0 V) ∧ (V 520 x1 < 8 → Φ 1 V))))) ∧ (¬ V 517 x1 = 22 → Φ 0 V))) : ax_I (az_W B E) (d + 1) q_Parts_isCall [.ref (B + 16), ax_i x1] V Φ Θ := by
  refine ax_T.of (M := m_Parts_isCall) rfl (Nat.le_of_ble_eq_true rfl) ?_
  refine ax_mv 0 0 [some (.ref (B + 16)), some (ax_i x1)] [] rfl ?_
  refine ax_mv 1 1 [some (.ref (B + 16)), some (ax_i x1)] [.ref (B + 16)] rfl ?_
  refine ax_gR (v := .ref (B + 17)) (pc' := 4) ⟨_, rfl⟩ fl_6_9 (az_b 16 rfl) rfl rfl ?_
  refine ax_mv 1 5 [some (.ref (B + 16)), some (ax_i x1)] [ax_i x1, .ref (B + 17)] rfl ?_
  obtain ⟨o1, h⟩ := h
  refine ax_ild (n := 700) (pc' := 6) ⟨_, rfl⟩ (az_b 17 rfl) (by decide) o1 rfl ?_
  refine ax_bip (pc' := 8) ⟨_, rfl⟩ (by decide) rfl ?_
  refine ax_if2 (p1 := 35) (p2 := 11) ⟨_, rfl⟩ (by decide) rfl (hg _ _) (by decide) (fun hc => ?_) (fun hc => ?_)
  · have h := h.2 hc
    refine ax_mv 1 36 [some (.ref (B + 16)), some (ax_i x1)] [ax_i 0] rfl ?_
    exact ax_iret ⟨_, rfl⟩ rfl (ax_nbv (by decide)) (by decide) hg h
  · have h := h.1 (Classical.not_not.mp hc)
    refine ax_mv 1 12 [some (.ref (B + 16)), some (ax_i x1)] [.ref (B + 16)] rfl ?_
    refine ax_gR (v := .ref (B + 20)) (pc' := 15) ⟨_, rfl⟩ fl_6_21 (az_b 16 rfl) rfl rfl ?_
    refine ax_mv 1 16 [some (.ref (B + 16)), some (ax_i x1)] [ax_i x1, .ref (B + 20)] rfl ?_
    obtain ⟨o2, h⟩ := h
    refine ax_ild (n := 700) (pc' := 17) ⟨_, rfl⟩ (az_b 20 rfl) (by decide) o2 rfl ?_
    refine ax_if (p1 := 35) (p2 := 20) ⟨_, rfl⟩ (by decide) rfl (hg _ _) (fun hc => ?_) (fun hc => ?_)
    · have h := h.1 hc
      refine ax_mv 1 36 [some (.ref (B + 16)), some (ax_i x1)] [ax_i 0] rfl ?_
      exact ax_iret ⟨_, rfl⟩ rfl (ax_nbv (by decide)) (by decide) hg h
    · have h := h.2 (Int.not_lt.mp hc)
      refine ax_mv 1 21 [some (.ref (B + 16)), some (ax_i x1)] [.ref (B + 16)] rfl ?_
      refine ax_gR (v := .ref (B + 20)) (pc' := 24) ⟨_, rfl⟩ fl_6_21 (az_b 16 rfl) rfl rfl ?_
      refine ax_mv 1 25 [some (.ref (B + 16)), some (ax_i x1)] [ax_i x1, .ref (B + 20)] rfl ?_
      obtain ⟨o3, h⟩ := h
      refine ax_ild (n := 700) (pc' := 26) ⟨_, rfl⟩ (az_b 20 rfl) (by decide) o3 rfl ?_
      refine ax_bip (pc' := 28) ⟨_, rfl⟩ (by decide) rfl ?_
      refine ax_if2 (p1 := 35) (p2 := 31) ⟨_, rfl⟩ (by decide) rfl (hg _ _) (by decide) (fun hc => ?_) (fun hc => ?_)
      · have h := h.1 hc
        refine ax_mv 1 36 [some (.ref (B + 16)), some (ax_i x1)] [ax_i 0] rfl ?_
        exact ax_iret ⟨_, rfl⟩ rfl (ax_nbv (by decide)) (by decide) hg h
      · have h := h.2 (Int.not_le.mp hc)
        refine ax_mv 2 36 [some (.ref (B + 16)), some (ax_i x1)] [ax_i 1] rfl ?_
        exact ax_iret ⟨_, rfl⟩ rfl (ax_nbv (by decide)) (by decide) hg h
theorem r_Program_clear {B : Nat} {E : List (Nat × ax_S)} {d : Nat} {V : ax_V} {Φ : ax_V → Prop} {Θ : ax_V → Prop} (hg : ax_g V) (h : (∀ V1, V1 = ax_u V 500 0 0 → ax_N (az_W B E) d q_Arrays_fill [.ref (B + 3), ax_i 0] V1 (fun V2 => ax_N (az_W B E) d q_Arrays_fill [.ref (B + 4), ax_i 0] V2 (fun V3 => ax_N (az_W B E) d q_Arrays_fill [.ref (B + 5), ax_i 0] V3 (fun V4 => (∀ V5, V5 = ax_u V4 516 0 0 → (∀ V6, V6 = ax_u V5 547 0 0 → (∀ V7, V7 = ax_u V6 547 1 0 → (∀ V8, V8 = ax_u V7 556 0 0 → (∀ V9, V9 = ax_u V8 556 1 0 → (∀ V10, V10 = ax_u V9 556 2 0 → ax_N (az_W B E) d q_Letters_clear [.ref (B + 32)] V10 (fun V11 => Φ V11) Θ))))))) (fun _ => False)) (fun _ => False)) (fun _ => False))) : ax_N (az_W B E) (d + 1) q_Program_clear [.ref B] V Φ Θ := by
  refine ax_T.of (M := m_Program_clear) rfl (Nat.le_of_ble_eq_true rfl) ?_
  refine ax_mv 0 0 [some (.ref B)] [] rfl ?_
  refine ax_mv 2 2 [some (.ref B)] [ax_i 0, .ref B] rfl ?_
  obtain ⟨V1, eV1⟩ : ∃ W9 : ax_V, W9 = ax_u V 500 0 0 := ⟨_, rfl⟩
  have h := h V1 eV1
  have hg1 : ax_g V1 := eV1 ▸ ax_u_g hg (by decide)
  refine ax_pI (kI := 0) (pc' := 5) ⟨_, rfl⟩ fl_8_85 az_ok (az_b 0 rfl) rfl rfl rfl rfl eV1 rfl ?_
  refine ax_mv 1 6 [some (.ref B)] [.ref B] rfl ?_
  refine ax_gR (v := .ref (B + 3)) (pc' := 9) ⟨_, rfl⟩ fl_8_18 (az_b 0 rfl) rfl rfl ?_
  refine ax_mv 1 10 [some (.ref B)] [ax_i 0, .ref (B + 3)] rfl ?_
  refine ax_callSN (pc' := 13) ⟨_, rfl⟩ ml_8_89 (Nat.le_of_ble_eq_true rfl) (Nat.le_of_ble_eq_true rfl) rfl h (fun V2 hg2 h => ?_)
  refine ax_mv 0 13 [some (.ref B)] [] rfl ?_
  refine ax_mv 1 14 [some (.ref B)] [.ref B] rfl ?_
  refine ax_gR (v := .ref (B + 4)) (pc' := 17) ⟨_, rfl⟩ fl_8_21 (az_b 0 rfl) rfl rfl ?_
  refine ax_mv 1 18 [some (.ref B)] [ax_i 0, .ref (B + 4)] rfl ?_
  refine ax_callSN (pc' := 21) ⟨_, rfl⟩ ml_8_89 (Nat.le_of_ble_eq_true rfl) (Nat.le_of_ble_eq_true rfl) rfl h (fun V3 hg3 h => ?_)
  refine ax_mv 0 21 [some (.ref B)] [] rfl ?_
  refine ax_mv 1 22 [some (.ref B)] [.ref B] rfl ?_
  refine ax_gR (v := .ref (B + 5)) (pc' := 25) ⟨_, rfl⟩ fl_8_24 (az_b 0 rfl) rfl rfl ?_
  refine ax_mv 1 26 [some (.ref B)] [ax_i 0, .ref (B + 5)] rfl ?_
  refine ax_callSN (pc' := 29) ⟨_, rfl⟩ ml_8_89 (Nat.le_of_ble_eq_true rfl) (Nat.le_of_ble_eq_true rfl) rfl h (fun V4 hg4 h => ?_)
  refine ax_mv 0 29 [some (.ref B)] [] rfl ?_
  refine ax_mv 1 30 [some (.ref B)] [.ref B] rfl ?_
  refine ax_gR (v := .ref (B + 16)) (pc' := 33) ⟨_, rfl⟩ fl_8_60 (az_b 0 rfl) rfl rfl ?_
  refine ax_mv 1 34 [some (.ref B)] [ax_i 0, .ref (B + 16)] rfl ?_
  obtain ⟨V5, eV5⟩ : ∃ W9 : ax_V, W9 = ax_u V4 516 0 0 := ⟨_, rfl⟩
  have h := h V5 eV5
  have hg5 : ax_g V5 := eV5 ▸ ax_u_g hg4 (by decide)
  refine ax_pI (kI := 0) (pc' := 37) ⟨_, rfl⟩ fl_8_95 az_ok (az_b 16 rfl) rfl rfl rfl rfl eV5 rfl ?_
  refine ax_mv 1 38 [some (.ref B)] [.ref B] rfl ?_
  refine ax_gR (v := .ref (B + 47)) (pc' := 41) ⟨_, rfl⟩ fl_8_74 (az_b 0 rfl) rfl rfl ?_
  refine ax_mv 1 42 [some (.ref B)] [ax_i 0, .ref (B + 47)] rfl ?_
  obtain ⟨V6, eV6⟩ : ∃ W9 : ax_V, W9 = ax_u V5 547 0 0 := ⟨_, rfl⟩
  have h := h V6 eV6
  have hg6 : ax_g V6 := eV6 ▸ ax_u_g hg5 (by decide)
  refine ax_pI (kI := 0) (pc' := 45) ⟨_, rfl⟩ fl_8_98 az_ok (az_b 47 rfl) rfl rfl rfl rfl eV6 rfl ?_
  refine ax_mv 1 46 [some (.ref B)] [.ref B] rfl ?_
  refine ax_gR (v := .ref (B + 47)) (pc' := 49) ⟨_, rfl⟩ fl_8_74 (az_b 0 rfl) rfl rfl ?_
  refine ax_mv 1 50 [some (.ref B)] [ax_i 0, .ref (B + 47)] rfl ?_
  obtain ⟨V7, eV7⟩ : ∃ W9 : ax_V, W9 = ax_u V6 547 1 0 := ⟨_, rfl⟩
  have h := h V7 eV7
  have hg7 : ax_g V7 := eV7 ▸ ax_u_g hg6 (by decide)
  refine ax_pI (kI := 1) (pc' := 53) ⟨_, rfl⟩ fl_8_99 az_ok (az_b 47 rfl) rfl rfl rfl rfl eV7 rfl ?_
  refine ax_mv 1 54 [some (.ref B)] [.ref B] rfl ?_
  refine ax_gR (v := .ref (B + 56)) (pc' := 57) ⟨_, rfl⟩ fl_8_81 (az_b 0 rfl) rfl rfl ?_
  refine ax_mv 1 58 [some (.ref B)] [ax_i 0, .ref (B + 56)] rfl ?_
  obtain ⟨V8, eV8⟩ : ∃ W9 : ax_V, W9 = ax_u V7 556 0 0 := ⟨_, rfl⟩
  have h := h V8 eV8
  have hg8 : ax_g V8 := eV8 ▸ ax_u_g hg7 (by decide)
  refine ax_pI (kI := 0) (pc' := 61) ⟨_, rfl⟩ fl_8_102 az_ok (az_b 56 rfl) rfl rfl rfl rfl eV8 rfl ?_
  refine ax_mv 1 62 [some (.ref B)] [.ref B] rfl ?_
  refine ax_gR (v := .ref (B + 56)) (pc' := 65) ⟨_, rfl⟩ fl_8_81 (az_b 0 rfl) rfl rfl ?_
  refine ax_mv 1 66 [some (.ref B)] [ax_i 0, .ref (B + 56)] rfl ?_
  obtain ⟨V9, eV9⟩ : ∃ W9 : ax_V, W9 = ax_u V8 556 1 0 := ⟨_, rfl⟩
  have h := h V9 eV9
  have hg9 : ax_g V9 := eV9 ▸ ax_u_g hg8 (by decide)
  refine ax_pI (kI := 1) (pc' := 69) ⟨_, rfl⟩ fl_8_103 az_ok (az_b 56 rfl) rfl rfl rfl rfl eV9 rfl ?_
  refine ax_mv 1 70 [some (.ref B)] [.ref B] rfl ?_
  refine ax_gR (v := .ref (B + 56)) (pc' := 73) ⟨_, rfl⟩ fl_8_81 (az_b 0 rfl) rfl rfl ?_
  refine ax_mv 1 74 [some (.ref B)] [ax_i 0, .ref (B + 56)] rfl ?_
  obtain ⟨V10, eV10⟩ : ∃ W9 : ax_V, W9 = ax_u V9 556 2 0 := ⟨_, rfl⟩
  have h := h V10 eV10
  have hg10 : ax_g V10 := eV10 ▸ ax_u_g hg9 (by decide)
  refine ax_pI (kI := 2) (pc' := 77) ⟨_, rfl⟩ fl_8_106 az_ok (az_b 56 rfl) rfl rfl rfl rfl eV10 rfl ?_
  refine ax_mv 1 78 [some (.ref B)] [.ref B] rfl ?_
  refine ax_gR (v := .ref (B + 32)) (pc' := 81) ⟨_, rfl⟩ fl_8_67 (az_b 0 rfl) rfl rfl ?_
  refine ax_callN (pc' := 84) ⟨_, rfl⟩ ml_8_109 (rest := []) rfl (fun ss hs => ⟨_, _, (az_b 32 rfl) ss hs⟩) (Nat.le_of_ble_eq_true rfl) rfl rfl h (fun V11 hg11 h => ?_)
  exact ax_nret ⟨_, rfl⟩ rfl hg11 h
abbrev k_Letters_clear_83 (B : Nat) (E : List (Nat × ax_S)) (d : Nat) (x1 : Int) (V : ax_V) (Φ : ax_V → Prop) (Θ : ax_V → Prop) : Prop := ax_R (az_W B E) ax_t d m_Letters_clear 83 [some (.ref (B + 32)), some (ax_i x1)] [] V (ax_Nr Φ) Θ
theorem r_Letters_clear_83 {B : Nat} {E : List (Nat × ax_S)} {d : Nat} {V : ax_V} {Φ : ax_V → Prop} {Θ : ax_V → Prop} {x1 : Int} (hg : ax_g V) (hx1 : ax_rg x1) (h : ((208 ≤ x1 → Φ V) ∧ (x1 < 208 → (0 ≤ x1 ∧ x1 < 208) ∧ (∀ V1, V1 = ax_u V 538 x1 0 → (0 ≤ x1 ∧ x1 < 208) ∧ (∀ V2, V2 = ax_u V1 544 x1 0 → k_Letters_clear_83 B E d (x1 + 1) V2 Φ Θ))))) : k_Letters_clear_83 B E d x1 V Φ Θ := by
  refine ax_mv 1 84 [some (.ref (B + 32)), some (ax_i x1)] [ax_i x1] rfl ?_
  refine ax_sip (pc' := 87) ⟨_, rfl⟩ (by decide) rfl ?_
  refine ax_if2 (p1 := 110) (p2 := 90) ⟨_, rfl⟩ (by decide) rfl hx1 (by decide) (fun hc => ?_) (fun hc => ?_)
  · have h := h.1 hc
    exact ax_nret ⟨_, rfl⟩ rfl hg h
  · have h := h.2 (Int.not_le.mp hc)
    refine ax_mv 1 91 [some (.ref (B + 32)), some (ax_i x1)] [.ref (B + 32)] rfl ?_
    refine ax_gR (v := .ref (B + 38)) (pc' := 94) ⟨_, rfl⟩ fl_4_27 (az_b 32 rfl) rfl rfl ?_
    refine ax_mv 2 96 [some (.ref (B + 32)), some (ax_i x1)] [ax_i 0, ax_i x1, .ref (B + 38)] rfl ?_
    obtain ⟨o1, h⟩ := h
    obtain ⟨V1, eV1⟩ : ∃ W9 : ax_V, W9 = ax_u V 538 x1 0 := ⟨_, rfl⟩
    have h := h V1 eV1
    have hg1 : ax_g V1 := eV1 ▸ ax_u_g hg (by decide)
    refine ax_bst (n := 208) (pc' := 97) ⟨_, rfl⟩ az_ok (az_b 38 rfl) (by decide) o1 (by decide) eV1 rfl ?_
    refine ax_mv 1 98 [some (.ref (B + 32)), some (ax_i x1)] [.ref (B + 32)] rfl ?_
    refine ax_gR (v := .ref (B + 44)) (pc' := 101) ⟨_, rfl⟩ fl_4_46 (az_b 32 rfl) rfl rfl ?_
    refine ax_mv 2 103 [some (.ref (B + 32)), some (ax_i x1)] [ax_i 0, ax_i x1, .ref (B + 44)] rfl ?_
    obtain ⟨o2, h⟩ := h
    obtain ⟨V2, eV2⟩ : ∃ W9 : ax_V, W9 = ax_u V1 544 x1 0 := ⟨_, rfl⟩
    have h := h V2 eV2
    have hg2 : ax_g V2 := eV2 ▸ ax_u_g hg1 (by decide)
    refine ax_bst (n := 208) (pc' := 104) ⟨_, rfl⟩ az_ok (az_b 44 rfl) (by decide) o2 (by decide) eV2 rfl ?_
    refine ax_inc (x := x1) (pc' := 107) (L' := [some (.ref (B + 32)), some (ax_i (x1 + 1))]) ⟨_, rfl⟩ rfl rfl rfl rfl ?_
    refine ax_mv 1 83 [some (.ref (B + 32)), some (ax_i (x1 + 1))] [] rfl ?_
    exact h
theorem r_Letters_clear {B : Nat} {E : List (Nat × ax_S)} {d : Nat} {V : ax_V} {Φ : ax_V → Prop} {Θ : ax_V → Prop} (hg : ax_g V) (h : ax_N (az_W B E) d q_Arrays_fill [.ref (B + 33), ax_i (-1)] V (fun V1 => ax_N (az_W B E) d q_Arrays_fill [.ref (B + 34), ax_i 0] V1 (fun V2 => ax_N (az_W B E) d q_Arrays_fill [.ref (B + 36), ax_i (-1)] V2 (fun V3 => ax_N (az_W B E) d q_Arrays_fill [.ref (B + 37), ax_i (-1)] V3 (fun V4 => ax_N (az_W B E) d q_Arrays_fill [.ref (B + 40), ax_i (-1)] V4 (fun V5 => ax_N (az_W B E) d q_Arrays_fill [.ref (B + 41), ax_i (-2)] V5 (fun V6 => ax_N (az_W B E) d q_Arrays_fill [.ref (B + 42), ax_i (-1)] V6 (fun V7 => ax_N (az_W B E) d q_Arrays_fill [.ref (B + 43), ax_i (-1)] V7 (fun V8 => ax_N (az_W B E) d q_Arrays_fill [.ref (B + 45), ax_i 0] V8 (fun V9 => ax_N (az_W B E) d q_Arrays_fill [.ref (B + 46), ax_i 0] V9 (fun V10 => k_Letters_clear_83 B E d 0 V10 Φ Θ) (fun _ => False)) (fun _ => False)) (fun _ => False)) (fun _ => False)) (fun _ => False)) (fun _ => False)) (fun _ => False)) (fun _ => False)) (fun _ => False)) (fun _ => False)) : ax_N (az_W B E) (d + 1) q_Letters_clear [.ref (B + 32)] V Φ Θ := by
  refine ax_T.of (M := m_Letters_clear) rfl (Nat.le_of_ble_eq_true rfl) ?_
  refine ax_mv 0 0 [some (.ref (B + 32)), none] [] rfl ?_
  refine ax_mv 1 1 [some (.ref (B + 32)), none] [.ref (B + 32)] rfl ?_
  refine ax_gR (v := .ref (B + 33)) (pc' := 4) ⟨_, rfl⟩ fl_4_9 (az_b 32 rfl) rfl rfl ?_
  refine ax_mv 1 5 [some (.ref (B + 32)), none] [ax_i (-1), .ref (B + 33)] rfl ?_
  refine ax_callSN (pc' := 8) ⟨_, rfl⟩ ml_4_55 (Nat.le_of_ble_eq_true rfl) (Nat.le_of_ble_eq_true rfl) rfl h (fun V1 hg1 h => ?_)
  refine ax_mv 0 8 [some (.ref (B + 32)), none] [] rfl ?_
  refine ax_mv 1 9 [some (.ref (B + 32)), none] [.ref (B + 32)] rfl ?_
  refine ax_gR (v := .ref (B + 34)) (pc' := 12) ⟨_, rfl⟩ fl_4_15 (az_b 32 rfl) rfl rfl ?_
  refine ax_mv 1 13 [some (.ref (B + 32)), none] [ax_i 0, .ref (B + 34)] rfl ?_
  refine ax_callSN (pc' := 16) ⟨_, rfl⟩ ml_4_55 (Nat.le_of_ble_eq_true rfl) (Nat.le_of_ble_eq_true rfl) rfl h (fun V2 hg2 h => ?_)
  refine ax_mv 0 16 [some (.ref (B + 32)), none] [] rfl ?_
  refine ax_mv 1 17 [some (.ref (B + 32)), none] [.ref (B + 32)] rfl ?_
  refine ax_gR (v := .ref (B + 36)) (pc' := 20) ⟨_, rfl⟩ fl_4_21 (az_b 32 rfl) rfl rfl ?_
  refine ax_mv 1 21 [some (.ref (B + 32)), none] [ax_i (-1), .ref (B + 36)] rfl ?_
  refine ax_callSN (pc' := 24) ⟨_, rfl⟩ ml_4_55 (Nat.le_of_ble_eq_true rfl) (Nat.le_of_ble_eq_true rfl) rfl h (fun V3 hg3 h => ?_)
  refine ax_mv 0 24 [some (.ref (B + 32)), none] [] rfl ?_
  refine ax_mv 1 25 [some (.ref (B + 32)), none] [.ref (B + 32)] rfl ?_
  refine ax_gR (v := .ref (B + 37)) (pc' := 28) ⟨_, rfl⟩ fl_4_24 (az_b 32 rfl) rfl rfl ?_
  refine ax_mv 1 29 [some (.ref (B + 32)), none] [ax_i (-1), .ref (B + 37)] rfl ?_
  refine ax_callSN (pc' := 32) ⟨_, rfl⟩ ml_4_55 (Nat.le_of_ble_eq_true rfl) (Nat.le_of_ble_eq_true rfl) rfl h (fun V4 hg4 h => ?_)
  refine ax_mv 0 32 [some (.ref (B + 32)), none] [] rfl ?_
  refine ax_mv 1 33 [some (.ref (B + 32)), none] [.ref (B + 32)] rfl ?_
  refine ax_gR (v := .ref (B + 40)) (pc' := 36) ⟨_, rfl⟩ fl_4_34 (az_b 32 rfl) rfl rfl ?_
  refine ax_mv 1 37 [some (.ref (B + 32)), none] [ax_i (-1), .ref (B + 40)] rfl ?_
  refine ax_callSN (pc' := 40) ⟨_, rfl⟩ ml_4_55 (Nat.le_of_ble_eq_true rfl) (Nat.le_of_ble_eq_true rfl) rfl h (fun V5 hg5 h => ?_)
  refine ax_mv 0 40 [some (.ref (B + 32)), none] [] rfl ?_
  refine ax_mv 1 41 [some (.ref (B + 32)), none] [.ref (B + 32)] rfl ?_
  refine ax_gR (v := .ref (B + 41)) (pc' := 44) ⟨_, rfl⟩ fl_4_37 (az_b 32 rfl) rfl rfl ?_
  refine ax_bip (pc' := 46) ⟨_, rfl⟩ (by decide) rfl ?_
  refine ax_callSN (pc' := 49) ⟨_, rfl⟩ ml_4_55 (Nat.le_of_ble_eq_true rfl) (Nat.le_of_ble_eq_true rfl) rfl h (fun V6 hg6 h => ?_)
  refine ax_mv 0 49 [some (.ref (B + 32)), none] [] rfl ?_
  refine ax_mv 1 50 [some (.ref (B + 32)), none] [.ref (B + 32)] rfl ?_
  refine ax_gR (v := .ref (B + 42)) (pc' := 53) ⟨_, rfl⟩ fl_4_40 (az_b 32 rfl) rfl rfl ?_
  refine ax_mv 1 54 [some (.ref (B + 32)), none] [ax_i (-1), .ref (B + 42)] rfl ?_
  refine ax_callSN (pc' := 57) ⟨_, rfl⟩ ml_4_55 (Nat.le_of_ble_eq_true rfl) (Nat.le_of_ble_eq_true rfl) rfl h (fun V7 hg7 h => ?_)
  refine ax_mv 0 57 [some (.ref (B + 32)), none] [] rfl ?_
  refine ax_mv 1 58 [some (.ref (B + 32)), none] [.ref (B + 32)] rfl ?_
  refine ax_gR (v := .ref (B + 43)) (pc' := 61) ⟨_, rfl⟩ fl_4_43 (az_b 32 rfl) rfl rfl ?_
  refine ax_mv 1 62 [some (.ref (B + 32)), none] [ax_i (-1), .ref (B + 43)] rfl ?_
  refine ax_callSN (pc' := 65) ⟨_, rfl⟩ ml_4_55 (Nat.le_of_ble_eq_true rfl) (Nat.le_of_ble_eq_true rfl) rfl h (fun V8 hg8 h => ?_)
  refine ax_mv 0 65 [some (.ref (B + 32)), none] [] rfl ?_
  refine ax_mv 1 66 [some (.ref (B + 32)), none] [.ref (B + 32)] rfl ?_
  refine ax_gR (v := .ref (B + 45)) (pc' := 69) ⟨_, rfl⟩ fl_4_49 (az_b 32 rfl) rfl rfl ?_
  refine ax_mv 1 70 [some (.ref (B + 32)), none] [ax_i 0, .ref (B + 45)] rfl ?_
  refine ax_callSN (pc' := 73) ⟨_, rfl⟩ ml_4_55 (Nat.le_of_ble_eq_true rfl) (Nat.le_of_ble_eq_true rfl) rfl h (fun V9 hg9 h => ?_)
  refine ax_mv 0 73 [some (.ref (B + 32)), none] [] rfl ?_
  refine ax_mv 1 74 [some (.ref (B + 32)), none] [.ref (B + 32)] rfl ?_
  refine ax_gR (v := .ref (B + 46)) (pc' := 77) ⟨_, rfl⟩ fl_4_52 (az_b 32 rfl) rfl rfl ?_
  refine ax_mv 1 78 [some (.ref (B + 32)), none] [ax_i 0, .ref (B + 46)] rfl ?_
  refine ax_callSN (pc' := 81) ⟨_, rfl⟩ ml_4_55 (Nat.le_of_ble_eq_true rfl) (Nat.le_of_ble_eq_true rfl) rfl h (fun V10 hg10 h => ?_)
  refine ax_mv 0 81 [some (.ref (B + 32)), none] [] rfl ?_
  refine ax_mv 1 82 [some (.ref (B + 32)), none] [ax_i 0] rfl ?_
  refine ax_sti (i := 0) (k := 1) (n := 1) (pc' := 83) (L' := [some (.ref (B + 32)), some (ax_i 0)]) ⟨_, rfl⟩ rfl rfl rfl (Nat.le_of_ble_eq_true rfl) rfl rfl ?_
  exact h
theorem r_Letters_tell {B : Nat} {E : List (Nat × ax_S)} {d : Nat} {V : ax_V} {Φ : ax_V → Prop} {Θ : ax_V → Prop} {x1 : Int} {x2 : Int} {x3 : Int} {x4 : Int} (hg : ax_g V) (hx1 : ax_rg x1) (hx2 : ax_rg x2) (hx3 : ax_rg x3) (hx4 : ax_rg x4) (h : (0 ≤ x1 ∧ x1 < 208) ∧ (∀ V1, V1 = ax_u V 533 x1 x2 → (0 ≤ x1 ∧ x1 < 208) ∧ (∀ V2, V2 = ax_u V1 534 x1 x3 → (0 ≤ x1 ∧ x1 < 208) ∧ (∀ V3, V3 = ax_u V2 535 x1 x4 → Φ V3)))) : ax_N (az_W B E) (d + 1) q_Letters_tell [.ref (B + 32), ax_i x1, ax_i x2, ax_i x3, ax_i x4] V Φ Θ := by
  refine ax_T.of (M := m_Letters_tell) rfl (Nat.le_of_ble_eq_true rfl) ?_
  refine ax_mv 0 0 [some (.ref (B + 32)), some (ax_i x1), some (ax_i x2), some (ax_i x3), some (ax_i x4)] [] rfl ?_
  refine ax_mv 1 1 [some (.ref (B + 32)), some (ax_i x1), some (ax_i x2), some (ax_i x3), some (ax_i x4)] [.ref (B + 32)] rfl ?_
  refine ax_gR (v := .ref (B + 33)) (pc' := 4) ⟨_, rfl⟩ fl_4_9 (az_b 32 rfl) rfl rfl ?_
  refine ax_mv 2 6 [some (.ref (B + 32)), some (ax_i x1), some (ax_i x2), some (ax_i x3), some (ax_i x4)] [ax_i x2, ax_i x1, .ref (B + 33)] rfl ?_
  obtain ⟨o1, h⟩ := h
  obtain ⟨V1, eV1⟩ : ∃ W9 : ax_V, W9 = ax_u V 533 x1 x2 := ⟨_, rfl⟩
  have h := h V1 eV1
  have hg1 : ax_g V1 := eV1 ▸ ax_u_g hg hx2
  refine ax_ist (n := 208) (pc' := 7) ⟨_, rfl⟩ az_ok (az_b 33 rfl) (by decide) o1 eV1 rfl ?_
  refine ax_mv 1 8 [some (.ref (B + 32)), some (ax_i x1), some (ax_i x2), some (ax_i x3), some (ax_i x4)] [.ref (B + 32)] rfl ?_
  refine ax_gR (v := .ref (B + 34)) (pc' := 11) ⟨_, rfl⟩ fl_4_15 (az_b 32 rfl) rfl rfl ?_
  refine ax_mv 2 13 [some (.ref (B + 32)), some (ax_i x1), some (ax_i x2), some (ax_i x3), some (ax_i x4)] [ax_i x3, ax_i x1, .ref (B + 34)] rfl ?_
  obtain ⟨o2, h⟩ := h
  obtain ⟨V2, eV2⟩ : ∃ W9 : ax_V, W9 = ax_u V1 534 x1 x3 := ⟨_, rfl⟩
  have h := h V2 eV2
  have hg2 : ax_g V2 := eV2 ▸ ax_u_g hg1 hx3
  refine ax_ist (n := 208) (pc' := 14) ⟨_, rfl⟩ az_ok (az_b 34 rfl) (by decide) o2 eV2 rfl ?_
  refine ax_mv 1 15 [some (.ref (B + 32)), some (ax_i x1), some (ax_i x2), some (ax_i x3), some (ax_i x4)] [.ref (B + 32)] rfl ?_
  refine ax_gR (v := .ref (B + 35)) (pc' := 18) ⟨_, rfl⟩ fl_4_18 (az_b 32 rfl) rfl rfl ?_
  refine ax_mv 2 21 [some (.ref (B + 32)), some (ax_i x1), some (ax_i x2), some (ax_i x3), some (ax_i x4)] [ax_i x4, ax_i x1, .ref (B + 35)] rfl ?_
  obtain ⟨o3, h⟩ := h
  obtain ⟨V3, eV3⟩ : ∃ W9 : ax_V, W9 = ax_u V2 535 x1 x4 := ⟨_, rfl⟩
  have h := h V3 eV3
  have hg3 : ax_g V3 := eV3 ▸ ax_u_g hg2 hx4
  refine ax_ist (n := 208) (pc' := 22) ⟨_, rfl⟩ az_ok (az_b 35 rfl) (by decide) o3 eV3 rfl ?_
  exact ax_nret ⟨_, rfl⟩ rfl hg3 h
abbrev k_Program_tellFlow_46 (B : Nat) (E : List (Nat × ax_S)) (d : Nat) (x1 : Int) (x2 : Int) (x3 : Int) (V : ax_V) (Φ : ax_V → Prop) (Θ : ax_V → Prop) : Prop := ax_R (az_W B E) ax_t d m_Program_tellFlow 46 [some (.ref B), some (ax_i x1), some (ax_i x2), some (ax_i x3)] [] V (ax_Nr Φ) Θ
set_option maxRecDepth 20000 in
theorem r_Program_tellFlow_46 {B : Nat} {E : List (Nat × ax_S)} {d : Nat} {V : ax_V} {Φ : ax_V → Prop} {Θ : ax_V → Prop} {x1 : Int} {x2 : Int} {x3 : Int} (hg : ax_g V) (hx1 : ax_rg x1) (hx2 : ax_rg x2) (hx3 : ax_rg x3) (h : ((x2 = 2 → (0 ≤ x1 ∧ x1 < 8) ∧ ((26 ≤ V 504 x1 → (0 ≤ x1 ∧ x1 < 8) ∧ (0 ≤ x1 ∧ x1 < 8) ∧ ax_rg ((V 505 x1) + 1) ∧ (∀ V2, V2 = ax_u V 505 x1 ((V 505 x1) + 1) → Φ V2)) ∧ (V 504 x1 < 26 → (0 ≤ x1 ∧ x1 < 8) ∧ (0 ≤ (x1 * 26) + (V 504 x1) ∧ (x1 * 26) + (V 504 x1) < 208) ∧ (∀ V3, V3 = ax_u V 507 ((x1 * 26) + (V 504 x1)) x3 → (0 ≤ x1 ∧ x1 < 8) ∧ (0 ≤ x1 ∧ x1 < 8) ∧ ax_rg ((V3 504 x1) + 1) ∧ (∀ V4, V4 = ax_u V3 504 x1 ((V3 504 x1) + 1) → Φ V4))))) ∧ (¬ x2 = 2 → (0 ≤ x1 ∧ x1 < 8) ∧ (0 ≤ x1 ∧ x1 < 8) ∧ ax_rg ((V 505 x1) + 1) ∧ (∀ V1, V1 = ax_u V 505 x1 ((V 505 x1) + 1) → Φ V1)))) : k_Program_tellFlow_46 B E d x1 x2 x3 V Φ Θ := by
  refine ax_mv 2 48 [some (.ref B), some (ax_i x1), some (ax_i x2), some (ax_i x3)] [ax_i 2, ax_i x2] rfl ?_
  refine ax_if2 (p1 := 92) (p2 := 51) ⟨_, rfl⟩ (by decide) rfl hx2 (by decide) (fun hc => ?_) (fun hc => ?_)
  · have h := h.2 hc
    refine ax_mv 1 93 [some (.ref B), some (ax_i x1), some (ax_i x2), some (ax_i x3)] [.ref B] rfl ?_
    refine ax_gR (v := .ref (B + 5)) (pc' := 96) ⟨_, rfl⟩ fl_8_24 (az_b 0 rfl) rfl rfl ?_
    refine ax_mv 2 98 [some (.ref B), some (ax_i x1), some (ax_i x2), some (ax_i x3)] [ax_i x1, .ref (B + 5), ax_i x1, .ref (B + 5)] rfl ?_
    obtain ⟨o1, h⟩ := h
    refine ax_ild (n := 8) (pc' := 99) ⟨_, rfl⟩ (az_b 5 rfl) (by decide) o1 rfl ?_
    refine ax_mv 1 100 [some (.ref B), some (ax_i x1), some (ax_i x2), some (ax_i x3)] [ax_i 1, ax_i (V 505 x1), ax_i x1, .ref (B + 5)] rfl ?_
    refine ax_add (pc' := 101) ⟨_, rfl⟩ rfl ?_
    obtain ⟨o2, o3, h⟩ := h
    obtain ⟨V1, eV1⟩ : ∃ W9 : ax_V, W9 = ax_u V 505 x1 ((V 505 x1) + 1) := ⟨_, rfl⟩
    have h := h V1 eV1
    have hg1 : ax_g V1 := eV1 ▸ ax_u_g hg o3
    refine ax_ist (n := 8) (pc' := 102) ⟨_, rfl⟩ az_ok (az_b 5 rfl) (by decide) o2 eV1 rfl ?_
    exact ax_nret ⟨_, rfl⟩ rfl hg1 h
  · have h := h.1 (Classical.not_not.mp hc)
    refine ax_mv 1 52 [some (.ref B), some (ax_i x1), some (ax_i x2), some (ax_i x3)] [.ref B] rfl ?_
    refine ax_gR (v := .ref (B + 4)) (pc' := 55) ⟨_, rfl⟩ fl_8_21 (az_b 0 rfl) rfl rfl ?_
    refine ax_mv 1 56 [some (.ref B), some (ax_i x1), some (ax_i x2), some (ax_i x3)] [ax_i x1, .ref (B + 4)] rfl ?_
    obtain ⟨o4, h⟩ := h
    refine ax_ild (n := 8) (pc' := 57) ⟨_, rfl⟩ (az_b 4 rfl) (by decide) o4 rfl ?_
    refine ax_bip (pc' := 59) ⟨_, rfl⟩ (by decide) rfl ?_
    refine ax_if2 (p1 := 92) (p2 := 62) ⟨_, rfl⟩ (by decide) rfl (hg _ _) (by decide) (fun hc => ?_) (fun hc => ?_)
    · have h := h.1 hc
      refine ax_mv 1 93 [some (.ref B), some (ax_i x1), some (ax_i x2), some (ax_i x3)] [.ref B] rfl ?_
      refine ax_gR (v := .ref (B + 5)) (pc' := 96) ⟨_, rfl⟩ fl_8_24 (az_b 0 rfl) rfl rfl ?_
      refine ax_mv 2 98 [some (.ref B), some (ax_i x1), some (ax_i x2), some (ax_i x3)] [ax_i x1, .ref (B + 5), ax_i x1, .ref (B + 5)] rfl ?_
      obtain ⟨o5, h⟩ := h
      refine ax_ild (n := 8) (pc' := 99) ⟨_, rfl⟩ (az_b 5 rfl) (by decide) o5 rfl ?_
      refine ax_mv 1 100 [some (.ref B), some (ax_i x1), some (ax_i x2), some (ax_i x3)] [ax_i 1, ax_i (V 505 x1), ax_i x1, .ref (B + 5)] rfl ?_
      refine ax_add (pc' := 101) ⟨_, rfl⟩ rfl ?_
      obtain ⟨o6, o7, h⟩ := h
      obtain ⟨V2, eV2⟩ : ∃ W9 : ax_V, W9 = ax_u V 505 x1 ((V 505 x1) + 1) := ⟨_, rfl⟩
      have h := h V2 eV2
      have hg2 : ax_g V2 := eV2 ▸ ax_u_g hg o7
      refine ax_ist (n := 8) (pc' := 102) ⟨_, rfl⟩ az_ok (az_b 5 rfl) (by decide) o6 eV2 rfl ?_
      exact ax_nret ⟨_, rfl⟩ rfl hg2 h
    · have h := h.2 (Int.not_le.mp hc)
      refine ax_mv 1 63 [some (.ref B), some (ax_i x1), some (ax_i x2), some (ax_i x3)] [.ref B] rfl ?_
      refine ax_gR (v := .ref (B + 7)) (pc' := 66) ⟨_, rfl⟩ fl_8_30 (az_b 0 rfl) rfl rfl ?_
      refine ax_mv 1 67 [some (.ref B), some (ax_i x1), some (ax_i x2), some (ax_i x3)] [ax_i x1, .ref (B + 7)] rfl ?_
      refine ax_bip (pc' := 69) ⟨_, rfl⟩ (by decide) rfl ?_
      refine ax_mul (pc' := 70) ⟨_, rfl⟩ rfl ?_
      refine ax_mv 1 71 [some (.ref B), some (ax_i x1), some (ax_i x2), some (ax_i x3)] [.ref B, ax_i (x1 * 26), .ref (B + 7)] rfl ?_
      refine ax_gR (v := .ref (B + 4)) (pc' := 74) ⟨_, rfl⟩ fl_8_21 (az_b 0 rfl) rfl rfl ?_
      refine ax_mv 1 75 [some (.ref B), some (ax_i x1), some (ax_i x2), some (ax_i x3)] [ax_i x1, .ref (B + 4), ax_i (x1 * 26), .ref (B + 7)] rfl ?_
      obtain ⟨o8, h⟩ := h
      refine ax_ild (n := 8) (pc' := 76) ⟨_, rfl⟩ (az_b 4 rfl) (by decide) o8 rfl ?_
      refine ax_add (pc' := 77) ⟨_, rfl⟩ rfl ?_
      refine ax_mv 1 78 [some (.ref B), some (ax_i x1), some (ax_i x2), some (ax_i x3)] [ax_i x3, ax_i ((x1 * 26) + (V 504 x1)), .ref (B + 7)] rfl ?_
      obtain ⟨o9, h⟩ := h
      obtain ⟨V3, eV3⟩ : ∃ W9 : ax_V, W9 = ax_u V 507 ((x1 * 26) + (V 504 x1)) x3 := ⟨_, rfl⟩
      have h := h V3 eV3
      have hg3 : ax_g V3 := eV3 ▸ ax_u_g hg hx3
      refine ax_ist (n := 208) (pc' := 79) ⟨_, rfl⟩ az_ok (az_b 7 rfl) (by decide) o9 eV3 rfl ?_
      refine ax_mv 1 80 [some (.ref B), some (ax_i x1), some (ax_i x2), some (ax_i x3)] [.ref B] rfl ?_
      refine ax_gR (v := .ref (B + 4)) (pc' := 83) ⟨_, rfl⟩ fl_8_21 (az_b 0 rfl) rfl rfl ?_
      refine ax_mv 2 85 [some (.ref B), some (ax_i x1), some (ax_i x2), some (ax_i x3)] [ax_i x1, .ref (B + 4), ax_i x1, .ref (B + 4)] rfl ?_
      obtain ⟨o10, h⟩ := h
      refine ax_ild (n := 8) (pc' := 86) ⟨_, rfl⟩ (az_b 4 rfl) (by decide) o10 rfl ?_
      refine ax_mv 1 87 [some (.ref B), some (ax_i x1), some (ax_i x2), some (ax_i x3)] [ax_i 1, ax_i (V3 504 x1), ax_i x1, .ref (B + 4)] rfl ?_
      refine ax_add (pc' := 88) ⟨_, rfl⟩ rfl ?_
      obtain ⟨o11, o12, h⟩ := h
      obtain ⟨V4, eV4⟩ : ∃ W9 : ax_V, W9 = ax_u V3 504 x1 ((V3 504 x1) + 1) := ⟨_, rfl⟩
      have h := h V4 eV4
      have hg4 : ax_g V4 := eV4 ▸ ax_u_g hg3 o12
      refine ax_ist (n := 8) (pc' := 89) ⟨_, rfl⟩ az_ok (az_b 4 rfl) (by decide) o11 eV4 rfl ?_
      refine ax_mv 1 102 [some (.ref B), some (ax_i x1), some (ax_i x2), some (ax_i x3)] [] rfl ?_
      exact ax_nret ⟨_, rfl⟩ rfl hg4 h
set_option maxRecDepth 20000 in
theorem r_Program_tellFlow {B : Nat} {E : List (Nat × ax_S)} {d : Nat} {V : ax_V} {Φ : ax_V → Prop} {Θ : ax_V → Prop} {x1 : Int} {x2 : Int} {x3 : Int} (hg : ax_g V) (hx1 : ax_rg x1) (hx2 : ax_rg x2) (hx3 : ax_rg x3) (h : ((x2 = 1 → (0 ≤ x1 ∧ x1 < 8) ∧ ((26 ≤ V 503 x1 → k_Program_tellFlow_46 B E d x1 x2 x3 V Φ Θ) ∧ (V 503 x1 < 26 → (0 ≤ x1 ∧ x1 < 8) ∧ (0 ≤ (x1 * 26) + (V 503 x1) ∧ (x1 * 26) + (V 503 x1) < 208) ∧ (∀ V1, V1 = ax_u V 506 ((x1 * 26) + (V 503 x1)) x3 → (0 ≤ x1 ∧ x1 < 8) ∧ (0 ≤ x1 ∧ x1 < 8) ∧ ax_rg ((V1 503 x1) + 1) ∧ (∀ V2, V2 = ax_u V1 503 x1 ((V1 503 x1) + 1) → Φ V2))))) ∧ (¬ x2 = 1 → k_Program_tellFlow_46 B E d x1 x2 x3 V Φ Θ))) : ax_N (az_W B E) (d + 1) q_Program_tellFlow [.ref B, ax_i x1, ax_i x2, ax_i x3] V Φ Θ := by
  refine ax_T.of (M := m_Program_tellFlow) rfl (Nat.le_of_ble_eq_true rfl) ?_
  refine ax_mv 0 0 [some (.ref B), some (ax_i x1), some (ax_i x2), some (ax_i x3)] [] rfl ?_
  refine ax_mv 2 2 [some (.ref B), some (ax_i x1), some (ax_i x2), some (ax_i x3)] [ax_i 1, ax_i x2] rfl ?_
  refine ax_if2 (p1 := 46) (p2 := 5) ⟨_, rfl⟩ (by decide) rfl hx2 (by decide) (fun hc => ?_) (fun hc => ?_)
  · have h := h.2 hc
    exact h
  · have h := h.1 (Classical.not_not.mp hc)
    refine ax_mv 1 6 [some (.ref B), some (ax_i x1), some (ax_i x2), some (ax_i x3)] [.ref B] rfl ?_
    refine ax_gR (v := .ref (B + 3)) (pc' := 9) ⟨_, rfl⟩ fl_8_18 (az_b 0 rfl) rfl rfl ?_
    refine ax_mv 1 10 [some (.ref B), some (ax_i x1), some (ax_i x2), some (ax_i x3)] [ax_i x1, .ref (B + 3)] rfl ?_
    obtain ⟨o13, h⟩ := h
    refine ax_ild (n := 8) (pc' := 11) ⟨_, rfl⟩ (az_b 3 rfl) (by decide) o13 rfl ?_
    refine ax_bip (pc' := 13) ⟨_, rfl⟩ (by decide) rfl ?_
    refine ax_if2 (p1 := 46) (p2 := 16) ⟨_, rfl⟩ (by decide) rfl (hg _ _) (by decide) (fun hc => ?_) (fun hc => ?_)
    · have h := h.1 hc
      exact h
    · have h := h.2 (Int.not_le.mp hc)
      refine ax_mv 1 17 [some (.ref B), some (ax_i x1), some (ax_i x2), some (ax_i x3)] [.ref B] rfl ?_
      refine ax_gR (v := .ref (B + 6)) (pc' := 20) ⟨_, rfl⟩ fl_8_27 (az_b 0 rfl) rfl rfl ?_
      refine ax_mv 1 21 [some (.ref B), some (ax_i x1), some (ax_i x2), some (ax_i x3)] [ax_i x1, .ref (B + 6)] rfl ?_
      refine ax_bip (pc' := 23) ⟨_, rfl⟩ (by decide) rfl ?_
      refine ax_mul (pc' := 24) ⟨_, rfl⟩ rfl ?_
      refine ax_mv 1 25 [some (.ref B), some (ax_i x1), some (ax_i x2), some (ax_i x3)] [.ref B, ax_i (x1 * 26), .ref (B + 6)] rfl ?_
      refine ax_gR (v := .ref (B + 3)) (pc' := 28) ⟨_, rfl⟩ fl_8_18 (az_b 0 rfl) rfl rfl ?_
      refine ax_mv 1 29 [some (.ref B), some (ax_i x1), some (ax_i x2), some (ax_i x3)] [ax_i x1, .ref (B + 3), ax_i (x1 * 26), .ref (B + 6)] rfl ?_
      obtain ⟨o14, h⟩ := h
      refine ax_ild (n := 8) (pc' := 30) ⟨_, rfl⟩ (az_b 3 rfl) (by decide) o14 rfl ?_
      refine ax_add (pc' := 31) ⟨_, rfl⟩ rfl ?_
      refine ax_mv 1 32 [some (.ref B), some (ax_i x1), some (ax_i x2), some (ax_i x3)] [ax_i x3, ax_i ((x1 * 26) + (V 503 x1)), .ref (B + 6)] rfl ?_
      obtain ⟨o15, h⟩ := h
      obtain ⟨V1, eV1⟩ : ∃ W9 : ax_V, W9 = ax_u V 506 ((x1 * 26) + (V 503 x1)) x3 := ⟨_, rfl⟩
      have h := h V1 eV1
      have hg1 : ax_g V1 := eV1 ▸ ax_u_g hg hx3
      refine ax_ist (n := 208) (pc' := 33) ⟨_, rfl⟩ az_ok (az_b 6 rfl) (by decide) o15 eV1 rfl ?_
      refine ax_mv 1 34 [some (.ref B), some (ax_i x1), some (ax_i x2), some (ax_i x3)] [.ref B] rfl ?_
      refine ax_gR (v := .ref (B + 3)) (pc' := 37) ⟨_, rfl⟩ fl_8_18 (az_b 0 rfl) rfl rfl ?_
      refine ax_mv 2 39 [some (.ref B), some (ax_i x1), some (ax_i x2), some (ax_i x3)] [ax_i x1, .ref (B + 3), ax_i x1, .ref (B + 3)] rfl ?_
      obtain ⟨o16, h⟩ := h
      refine ax_ild (n := 8) (pc' := 40) ⟨_, rfl⟩ (az_b 3 rfl) (by decide) o16 rfl ?_
      refine ax_mv 1 41 [some (.ref B), some (ax_i x1), some (ax_i x2), some (ax_i x3)] [ax_i 1, ax_i (V1 503 x1), ax_i x1, .ref (B + 3)] rfl ?_
      refine ax_add (pc' := 42) ⟨_, rfl⟩ rfl ?_
      obtain ⟨o17, o18, h⟩ := h
      obtain ⟨V2, eV2⟩ : ∃ W9 : ax_V, W9 = ax_u V1 503 x1 ((V1 503 x1) + 1) := ⟨_, rfl⟩
      have h := h V2 eV2
      have hg2 : ax_g V2 := eV2 ▸ ax_u_g hg1 o18
      refine ax_ist (n := 8) (pc' := 43) ⟨_, rfl⟩ az_ok (az_b 3 rfl) (by decide) o17 eV2 rfl ?_
      refine ax_mv 1 102 [some (.ref B), some (ax_i x1), some (ax_i x2), some (ax_i x3)] [] rfl ?_
      exact ax_nret ⟨_, rfl⟩ rfl hg2 h
theorem r_Letters_tellClock {B : Nat} {E : List (Nat × ax_S)} {d : Nat} {V : ax_V} {Φ : ax_V → Prop} {Θ : ax_V → Prop} {x1 : Int} {x2 : Int} {x3 : Int} (hg : ax_g V) (hx1 : ax_rg x1) (hx2 : ax_rg x2) (hx3 : ax_rg x3) (h : (0 ≤ x1 ∧ x1 < 208) ∧ (∀ V1, V1 = ax_u V 536 x1 x2 → (0 ≤ x1 ∧ x1 < 208) ∧ (∀ V2, V2 = ax_u V1 537 x1 x3 → Φ V2))) : ax_N (az_W B E) (d + 1) q_Letters_tellClock [.ref (B + 32), ax_i x1, ax_i x2, ax_i x3] V Φ Θ := by
  refine ax_T.of (M := m_Letters_tellClock) rfl (Nat.le_of_ble_eq_true rfl) ?_
  refine ax_mv 0 0 [some (.ref (B + 32)), some (ax_i x1), some (ax_i x2), some (ax_i x3)] [] rfl ?_
  refine ax_mv 1 1 [some (.ref (B + 32)), some (ax_i x1), some (ax_i x2), some (ax_i x3)] [.ref (B + 32)] rfl ?_
  refine ax_gR (v := .ref (B + 36)) (pc' := 4) ⟨_, rfl⟩ fl_4_21 (az_b 32 rfl) rfl rfl ?_
  refine ax_mv 2 6 [some (.ref (B + 32)), some (ax_i x1), some (ax_i x2), some (ax_i x3)] [ax_i x2, ax_i x1, .ref (B + 36)] rfl ?_
  obtain ⟨o1, h⟩ := h
  obtain ⟨V1, eV1⟩ : ∃ W9 : ax_V, W9 = ax_u V 536 x1 x2 := ⟨_, rfl⟩
  have h := h V1 eV1
  have hg1 : ax_g V1 := eV1 ▸ ax_u_g hg hx2
  refine ax_ist (n := 208) (pc' := 7) ⟨_, rfl⟩ az_ok (az_b 36 rfl) (by decide) o1 eV1 rfl ?_
  refine ax_mv 1 8 [some (.ref (B + 32)), some (ax_i x1), some (ax_i x2), some (ax_i x3)] [.ref (B + 32)] rfl ?_
  refine ax_gR (v := .ref (B + 37)) (pc' := 11) ⟨_, rfl⟩ fl_4_24 (az_b 32 rfl) rfl rfl ?_
  refine ax_mv 2 13 [some (.ref (B + 32)), some (ax_i x1), some (ax_i x2), some (ax_i x3)] [ax_i x3, ax_i x1, .ref (B + 37)] rfl ?_
  obtain ⟨o2, h⟩ := h
  obtain ⟨V2, eV2⟩ : ∃ W9 : ax_V, W9 = ax_u V1 537 x1 x3 := ⟨_, rfl⟩
  have h := h V2 eV2
  have hg2 : ax_g V2 := eV2 ▸ ax_u_g hg1 hx3
  refine ax_ist (n := 208) (pc' := 14) ⟨_, rfl⟩ az_ok (az_b 37 rfl) (by decide) o2 eV2 rfl ?_
  exact ax_nret ⟨_, rfl⟩ rfl hg2 h
theorem r_Letters_tellLast {B : Nat} {E : List (Nat × ax_S)} {d : Nat} {V : ax_V} {Φ : ax_V → Prop} {Θ : ax_V → Prop} {x1 : Int} {x2 : Int} (hg : ax_g V) (hx1 : ax_rg x1) (hx2 : ax_rg x2) (h : (0 ≤ x1 ∧ x1 < 208) ∧ (∀ V1, V1 = ax_u V 538 x1 1 → (0 ≤ x1 ∧ x1 < 208) ∧ ((V1 535 x1 = 1 → ((x2 = 0 → (0 ≤ x1 ∧ x1 < 208) ∧ (∀ V3, V3 = ax_u V1 539 x1 x2 → Φ V3)) ∧ (¬ x2 = 0 → (0 ≤ x1 ∧ x1 < 208) ∧ (∀ V4, V4 = ax_u V1 539 x1 1 → Φ V4)))) ∧ (¬ V1 535 x1 = 1 → (0 ≤ x1 ∧ x1 < 208) ∧ (∀ V2, V2 = ax_u V1 539 x1 x2 → Φ V2))))) : ax_N (az_W B E) (d + 1) q_Letters_tellLast [.ref (B + 32), ax_i x1, ax_i x2] V Φ Θ := by
  refine ax_T.of (M := m_Letters_tellLast) rfl (Nat.le_of_ble_eq_true rfl) ?_
  refine ax_mv 0 0 [some (.ref (B + 32)), some (ax_i x1), some (ax_i x2)] [] rfl ?_
  refine ax_mv 1 1 [some (.ref (B + 32)), some (ax_i x1), some (ax_i x2)] [.ref (B + 32)] rfl ?_
  refine ax_gR (v := .ref (B + 38)) (pc' := 4) ⟨_, rfl⟩ fl_4_27 (az_b 32 rfl) rfl rfl ?_
  refine ax_mv 2 6 [some (.ref (B + 32)), some (ax_i x1), some (ax_i x2)] [ax_i 1, ax_i x1, .ref (B + 38)] rfl ?_
  obtain ⟨o1, h⟩ := h
  obtain ⟨V1, eV1⟩ : ∃ W9 : ax_V, W9 = ax_u V 538 x1 1 := ⟨_, rfl⟩
  have h := h V1 eV1
  have hg1 : ax_g V1 := eV1 ▸ ax_u_g hg (by decide)
  refine ax_bst (n := 208) (pc' := 7) ⟨_, rfl⟩ az_ok (az_b 38 rfl) (by decide) o1 (by decide) eV1 rfl ?_
  refine ax_mv 1 8 [some (.ref (B + 32)), some (ax_i x1), some (ax_i x2)] [.ref (B + 32)] rfl ?_
  refine ax_gR (v := .ref (B + 39)) (pc' := 11) ⟨_, rfl⟩ fl_4_31 (az_b 32 rfl) rfl rfl ?_
  refine ax_mv 2 13 [some (.ref (B + 32)), some (ax_i x1), some (ax_i x2)] [.ref (B + 32), ax_i x1, .ref (B + 39)] rfl ?_
  refine ax_gR (v := .ref (B + 35)) (pc' := 16) ⟨_, rfl⟩ fl_4_18 (az_b 32 rfl) rfl rfl ?_
  refine ax_mv 1 17 [some (.ref (B + 32)), some (ax_i x1), some (ax_i x2)] [ax_i x1, .ref (B + 35), ax_i x1, .ref (B + 39)] rfl ?_
  obtain ⟨o2, h⟩ := h
  refine ax_ild (n := 208) (pc' := 18) ⟨_, rfl⟩ (az_b 35 rfl) (by decide) o2 rfl ?_
  refine ax_mv 1 19 [some (.ref (B + 32)), some (ax_i x1), some (ax_i x2)] [ax_i 1, ax_i (V1 535 x1), ax_i x1, .ref (B + 39)] rfl ?_
  refine ax_if2 (p1 := 30) (p2 := 22) ⟨_, rfl⟩ (by decide) rfl (hg1 _ _) (by decide) (fun hc => ?_) (fun hc => ?_)
  · have h := h.2 hc
    refine ax_mv 1 31 [some (.ref (B + 32)), some (ax_i x1), some (ax_i x2)] [ax_i x2, ax_i x1, .ref (B + 39)] rfl ?_
    obtain ⟨o3, h⟩ := h
    obtain ⟨V2, eV2⟩ : ∃ W9 : ax_V, W9 = ax_u V1 539 x1 x2 := ⟨_, rfl⟩
    have h := h V2 eV2
    have hg2 : ax_g V2 := eV2 ▸ ax_u_g hg1 hx2
    refine ax_ist (n := 208) (pc' := 32) ⟨_, rfl⟩ az_ok (az_b 39 rfl) (by decide) o3 eV2 rfl ?_
    exact ax_nret ⟨_, rfl⟩ rfl hg2 h
  · have h := h.1 (Classical.not_not.mp hc)
    refine ax_mv 1 23 [some (.ref (B + 32)), some (ax_i x1), some (ax_i x2)] [ax_i x2, ax_i x1, .ref (B + 39)] rfl ?_
    refine ax_if (p1 := 30) (p2 := 26) ⟨_, rfl⟩ (by decide) rfl hx2 (fun hc => ?_) (fun hc => ?_)
    · have h := h.1 hc
      refine ax_mv 1 31 [some (.ref (B + 32)), some (ax_i x1), some (ax_i x2)] [ax_i x2, ax_i x1, .ref (B + 39)] rfl ?_
      obtain ⟨o4, h⟩ := h
      obtain ⟨V3, eV3⟩ : ∃ W9 : ax_V, W9 = ax_u V1 539 x1 x2 := ⟨_, rfl⟩
      have h := h V3 eV3
      have hg3 : ax_g V3 := eV3 ▸ ax_u_g hg1 hx2
      refine ax_ist (n := 208) (pc' := 32) ⟨_, rfl⟩ az_ok (az_b 39 rfl) (by decide) o4 eV3 rfl ?_
      exact ax_nret ⟨_, rfl⟩ rfl hg3 h
    · have h := h.2 hc
      refine ax_mv 2 31 [some (.ref (B + 32)), some (ax_i x1), some (ax_i x2)] [ax_i 1, ax_i x1, .ref (B + 39)] rfl ?_
      obtain ⟨o5, h⟩ := h
      obtain ⟨V4, eV4⟩ : ∃ W9 : ax_V, W9 = ax_u V1 539 x1 1 := ⟨_, rfl⟩
      have h := h V4 eV4
      have hg4 : ax_g V4 := eV4 ▸ ax_u_g hg1 (by decide)
      refine ax_ist (n := 208) (pc' := 32) ⟨_, rfl⟩ az_ok (az_b 39 rfl) (by decide) o5 eV4 rfl ?_
      exact ax_nret ⟨_, rfl⟩ rfl hg4 h
theorem r_Automata_add {B : Nat} {E : List (Nat × ax_S)} {d : Nat} {V : ax_V} {Φ : Int → ax_V → Prop} {Θ : ax_V → Prop} {x1 : Int} (hg : ax_g V) (hx1 : ax_rg x1) (h : ax_rg ((V 556 0) + 1) ∧ (∀ V1, V1 = ax_u V 556 0 ((V 556 0) + 1) → (0 ≤ V 556 0 ∧ V 556 0 < 350) ∧ (∀ V2, V2 = ax_u V1 557 (V 556 0) x1 → (0 ≤ V 556 0 ∧ V 556 0 < 351) ∧ (∀ V3, V3 = ax_u V2 558 (V 556 0) (V2 556 1) → (0 ≤ (V 556 0) + 1 ∧ (V 556 0) + 1 < 351) ∧ (∀ V4, V4 = ax_u V3 558 ((V 556 0) + 1) (V3 556 1) → (0 ≤ V 556 0 ∧ V 556 0 < 351) ∧ (∀ V5, V5 = ax_u V4 559 (V 556 0) (V4 556 2) → (0 ≤ (V 556 0) + 1 ∧ (V 556 0) + 1 < 351) ∧ (∀ V6, V6 = ax_u V5 559 ((V 556 0) + 1) (V5 556 2) → (0 ≤ V 556 0 ∧ V 556 0 < 350) ∧ (∀ V7, V7 = ax_u V6 560 (V 556 0) 0 → (0 ≤ V 556 0 ∧ V 556 0 < 350) ∧ (∀ V8, V8 = ax_u V7 561 (V 556 0) 0 → (0 ≤ V 556 0 ∧ V 556 0 < 350) ∧ (∀ V9, V9 = ax_u V8 562 (V 556 0) 0 → Φ (V 556 0) V9)))))))))) : ax_I (az_W B E) (d + 1) q_Automata_add [.ref (B + 56), ax_i x1] V Φ Θ := by
  refine ax_T.of (M := m_Automata_add) rfl (Nat.le_of_ble_eq_true rfl) ?_
  refine ax_mv 0 0 [some (.ref (B + 56)), some (ax_i x1), none] [] rfl ?_
  refine ax_mv 1 1 [some (.ref (B + 56)), some (ax_i x1), none] [.ref (B + 56)] rfl ?_
  refine ax_gI (kI := 0) (pc' := 4) ⟨_, rfl⟩ fl_0_64 (az_b 56 rfl) rfl rfl rfl ?_
  refine ax_sti (i := 0) (k := 2) (n := 1) (pc' := 5) (L' := [some (.ref (B + 56)), some (ax_i x1), some (ax_i (V 556 0))]) ⟨_, rfl⟩ rfl rfl rfl (Nat.le_of_ble_eq_true rfl) rfl rfl ?_
  refine ax_mv 2 7 [some (.ref (B + 56)), some (ax_i x1), some (ax_i (V 556 0))] [.ref (B + 56), .ref (B + 56)] rfl ?_
  refine ax_gI (kI := 0) (pc' := 10) ⟨_, rfl⟩ fl_0_64 (az_b 56 rfl) rfl rfl rfl ?_
  refine ax_mv 1 11 [some (.ref (B + 56)), some (ax_i x1), some (ax_i (V 556 0))] [ax_i 1, ax_i (V 556 0), .ref (B + 56)] rfl ?_
  refine ax_add (pc' := 12) ⟨_, rfl⟩ rfl ?_
  obtain ⟨o1, h⟩ := h
  obtain ⟨V1, eV1⟩ : ∃ W9 : ax_V, W9 = ax_u V 556 0 ((V 556 0) + 1) := ⟨_, rfl⟩
  have h := h V1 eV1
  have hg1 : ax_g V1 := eV1 ▸ ax_u_g hg o1
  refine ax_pI (kI := 0) (pc' := 15) ⟨_, rfl⟩ fl_0_64 az_ok (az_b 56 rfl) rfl rfl rfl rfl eV1 rfl ?_
  refine ax_mv 1 16 [some (.ref (B + 56)), some (ax_i x1), some (ax_i (V 556 0))] [.ref (B + 56)] rfl ?_
  refine ax_gR (v := .ref (B + 57)) (pc' := 19) ⟨_, rfl⟩ fl_0_9 (az_b 56 rfl) rfl rfl ?_
  refine ax_mv 2 21 [some (.ref (B + 56)), some (ax_i x1), some (ax_i (V 556 0))] [ax_i x1, ax_i (V 556 0), .ref (B + 57)] rfl ?_
  obtain ⟨o2, h⟩ := h
  obtain ⟨V2, eV2⟩ : ∃ W9 : ax_V, W9 = ax_u V1 557 (V 556 0) x1 := ⟨_, rfl⟩
  have h := h V2 eV2
  have hg2 : ax_g V2 := eV2 ▸ ax_u_g hg1 hx1
  refine ax_ist (n := 350) (pc' := 22) ⟨_, rfl⟩ az_ok (az_b 57 rfl) (by decide) o2 eV2 rfl ?_
  refine ax_mv 1 23 [some (.ref (B + 56)), some (ax_i x1), some (ax_i (V 556 0))] [.ref (B + 56)] rfl ?_
  refine ax_gR (v := .ref (B + 58)) (pc' := 26) ⟨_, rfl⟩ fl_0_15 (az_b 56 rfl) rfl rfl ?_
  refine ax_mv 2 28 [some (.ref (B + 56)), some (ax_i x1), some (ax_i (V 556 0))] [.ref (B + 56), ax_i (V 556 0), .ref (B + 58)] rfl ?_
  refine ax_gI (kI := 1) (pc' := 31) ⟨_, rfl⟩ fl_0_68 (az_b 56 rfl) rfl rfl rfl ?_
  obtain ⟨o3, h⟩ := h
  obtain ⟨V3, eV3⟩ : ∃ W9 : ax_V, W9 = ax_u V2 558 (V 556 0) (V2 556 1) := ⟨_, rfl⟩
  have h := h V3 eV3
  have hg3 : ax_g V3 := eV3 ▸ ax_u_g hg2 (hg2 _ _)
  refine ax_ist (n := 351) (pc' := 32) ⟨_, rfl⟩ az_ok (az_b 58 rfl) (by decide) o3 eV3 rfl ?_
  refine ax_mv 1 33 [some (.ref (B + 56)), some (ax_i x1), some (ax_i (V 556 0))] [.ref (B + 56)] rfl ?_
  refine ax_gR (v := .ref (B + 58)) (pc' := 36) ⟨_, rfl⟩ fl_0_15 (az_b 56 rfl) rfl rfl ?_
  refine ax_mv 2 38 [some (.ref (B + 56)), some (ax_i x1), some (ax_i (V 556 0))] [ax_i 1, ax_i (V 556 0), .ref (B + 58)] rfl ?_
  refine ax_add (pc' := 39) ⟨_, rfl⟩ rfl ?_
  refine ax_mv 1 40 [some (.ref (B + 56)), some (ax_i x1), some (ax_i (V 556 0))] [.ref (B + 56), ax_i ((V 556 0) + 1), .ref (B + 58)] rfl ?_
  refine ax_gI (kI := 1) (pc' := 43) ⟨_, rfl⟩ fl_0_68 (az_b 56 rfl) rfl rfl rfl ?_
  obtain ⟨o4, h⟩ := h
  obtain ⟨V4, eV4⟩ : ∃ W9 : ax_V, W9 = ax_u V3 558 ((V 556 0) + 1) (V3 556 1) := ⟨_, rfl⟩
  have h := h V4 eV4
  have hg4 : ax_g V4 := eV4 ▸ ax_u_g hg3 (hg3 _ _)
  refine ax_ist (n := 351) (pc' := 44) ⟨_, rfl⟩ az_ok (az_b 58 rfl) (by decide) o4 eV4 rfl ?_
  refine ax_mv 1 45 [some (.ref (B + 56)), some (ax_i x1), some (ax_i (V 556 0))] [.ref (B + 56)] rfl ?_
  refine ax_gR (v := .ref (B + 59)) (pc' := 48) ⟨_, rfl⟩ fl_0_18 (az_b 56 rfl) rfl rfl ?_
  refine ax_mv 2 50 [some (.ref (B + 56)), some (ax_i x1), some (ax_i (V 556 0))] [.ref (B + 56), ax_i (V 556 0), .ref (B + 59)] rfl ?_
  refine ax_gI (kI := 2) (pc' := 53) ⟨_, rfl⟩ fl_0_71 (az_b 56 rfl) rfl rfl rfl ?_
  obtain ⟨o5, h⟩ := h
  obtain ⟨V5, eV5⟩ : ∃ W9 : ax_V, W9 = ax_u V4 559 (V 556 0) (V4 556 2) := ⟨_, rfl⟩
  have h := h V5 eV5
  have hg5 : ax_g V5 := eV5 ▸ ax_u_g hg4 (hg4 _ _)
  refine ax_ist (n := 351) (pc' := 54) ⟨_, rfl⟩ az_ok (az_b 59 rfl) (by decide) o5 eV5 rfl ?_
  refine ax_mv 1 55 [some (.ref (B + 56)), some (ax_i x1), some (ax_i (V 556 0))] [.ref (B + 56)] rfl ?_
  refine ax_gR (v := .ref (B + 59)) (pc' := 58) ⟨_, rfl⟩ fl_0_18 (az_b 56 rfl) rfl rfl ?_
  refine ax_mv 2 60 [some (.ref (B + 56)), some (ax_i x1), some (ax_i (V 556 0))] [ax_i 1, ax_i (V 556 0), .ref (B + 59)] rfl ?_
  refine ax_add (pc' := 61) ⟨_, rfl⟩ rfl ?_
  refine ax_mv 1 62 [some (.ref (B + 56)), some (ax_i x1), some (ax_i (V 556 0))] [.ref (B + 56), ax_i ((V 556 0) + 1), .ref (B + 59)] rfl ?_
  refine ax_gI (kI := 2) (pc' := 65) ⟨_, rfl⟩ fl_0_71 (az_b 56 rfl) rfl rfl rfl ?_
  obtain ⟨o6, h⟩ := h
  obtain ⟨V6, eV6⟩ : ∃ W9 : ax_V, W9 = ax_u V5 559 ((V 556 0) + 1) (V5 556 2) := ⟨_, rfl⟩
  have h := h V6 eV6
  have hg6 : ax_g V6 := eV6 ▸ ax_u_g hg5 (hg5 _ _)
  refine ax_ist (n := 351) (pc' := 66) ⟨_, rfl⟩ az_ok (az_b 59 rfl) (by decide) o6 eV6 rfl ?_
  refine ax_mv 1 67 [some (.ref (B + 56)), some (ax_i x1), some (ax_i (V 556 0))] [.ref (B + 56)] rfl ?_
  refine ax_gR (v := .ref (B + 60)) (pc' := 70) ⟨_, rfl⟩ fl_0_21 (az_b 56 rfl) rfl rfl ?_
  refine ax_mv 2 72 [some (.ref (B + 56)), some (ax_i x1), some (ax_i (V 556 0))] [ax_i 0, ax_i (V 556 0), .ref (B + 60)] rfl ?_
  obtain ⟨o7, h⟩ := h
  obtain ⟨V7, eV7⟩ : ∃ W9 : ax_V, W9 = ax_u V6 560 (V 556 0) 0 := ⟨_, rfl⟩
  have h := h V7 eV7
  have hg7 : ax_g V7 := eV7 ▸ ax_u_g hg6 (by decide)
  refine ax_ist (n := 350) (pc' := 73) ⟨_, rfl⟩ az_ok (az_b 60 rfl) (by decide) o7 eV7 rfl ?_
  refine ax_mv 1 74 [some (.ref (B + 56)), some (ax_i x1), some (ax_i (V 556 0))] [.ref (B + 56)] rfl ?_
  refine ax_gR (v := .ref (B + 61)) (pc' := 77) ⟨_, rfl⟩ fl_0_24 (az_b 56 rfl) rfl rfl ?_
  refine ax_mv 2 79 [some (.ref (B + 56)), some (ax_i x1), some (ax_i (V 556 0))] [ax_i 0, ax_i (V 556 0), .ref (B + 61)] rfl ?_
  obtain ⟨o8, h⟩ := h
  obtain ⟨V8, eV8⟩ : ∃ W9 : ax_V, W9 = ax_u V7 561 (V 556 0) 0 := ⟨_, rfl⟩
  have h := h V8 eV8
  have hg8 : ax_g V8 := eV8 ▸ ax_u_g hg7 (by decide)
  refine ax_ist (n := 350) (pc' := 80) ⟨_, rfl⟩ az_ok (az_b 61 rfl) (by decide) o8 eV8 rfl ?_
  refine ax_mv 1 81 [some (.ref (B + 56)), some (ax_i x1), some (ax_i (V 556 0))] [.ref (B + 56)] rfl ?_
  refine ax_gR (v := .ref (B + 62)) (pc' := 84) ⟨_, rfl⟩ fl_0_27 (az_b 56 rfl) rfl rfl ?_
  refine ax_mv 2 86 [some (.ref (B + 56)), some (ax_i x1), some (ax_i (V 556 0))] [ax_i 0, ax_i (V 556 0), .ref (B + 62)] rfl ?_
  obtain ⟨o9, h⟩ := h
  obtain ⟨V9, eV9⟩ : ∃ W9 : ax_V, W9 = ax_u V8 562 (V 556 0) 0 := ⟨_, rfl⟩
  have h := h V9 eV9
  have hg9 : ax_g V9 := eV9 ▸ ax_u_g hg8 (by decide)
  refine ax_bst (n := 350) (pc' := 87) ⟨_, rfl⟩ az_ok (az_b 62 rfl) (by decide) o9 (by decide) eV9 rfl ?_
  refine ax_mv 1 88 [some (.ref (B + 56)), some (ax_i x1), some (ax_i (V 556 0))] [ax_i (V 556 0)] rfl ?_
  exact ax_iret ⟨_, rfl⟩ rfl rfl (hg _ _) hg9 h
theorem r_Automata_addState {B : Nat} {E : List (Nat × ax_S)} {d : Nat} {V : ax_V} {Φ : Int → ax_V → Prop} {Θ : ax_V → Prop} {x1 : Int} (hg : ax_g V) (hx1 : ax_rg x1) (h : ax_rg ((V 556 1) + 1) ∧ (∀ V1, V1 = ax_u V 556 1 ((V 556 1) + 1) → (0 ≤ x1 + 1 ∧ x1 + 1 < 351) ∧ (∀ V2, V2 = ax_u V1 558 (x1 + 1) (V1 556 1) → (0 ≤ V 556 1 ∧ V 556 1 < 350) ∧ (∀ V3, V3 = ax_u V2 563 (V 556 1) x1 → (0 ≤ V 556 1 ∧ V 556 1 < 350) ∧ (∀ V4, V4 = ax_u V3 564 (V 556 1) 0 → (0 ≤ V 556 1 ∧ V 556 1 < 350) ∧ (∀ V5, V5 = ax_u V4 565 (V 556 1) 0 → (0 ≤ V 556 1 ∧ V 556 1 < 350) ∧ (∀ V6, V6 = ax_u V5 566 (V 556 1) 0 → Φ (V 556 1) V6))))))) : ax_I (az_W B E) (d + 1) q_Automata_addState [.ref (B + 56), ax_i x1] V Φ Θ := by
  refine ax_T.of (M := m_Automata_addState) rfl (Nat.le_of_ble_eq_true rfl) ?_
  refine ax_mv 0 0 [some (.ref (B + 56)), some (ax_i x1), none] [] rfl ?_
  refine ax_mv 1 1 [some (.ref (B + 56)), some (ax_i x1), none] [.ref (B + 56)] rfl ?_
  refine ax_gI (kI := 1) (pc' := 4) ⟨_, rfl⟩ fl_0_68 (az_b 56 rfl) rfl rfl rfl ?_
  refine ax_sti (i := 0) (k := 2) (n := 1) (pc' := 5) (L' := [some (.ref (B + 56)), some (ax_i x1), some (ax_i (V 556 1))]) ⟨_, rfl⟩ rfl rfl rfl (Nat.le_of_ble_eq_true rfl) rfl rfl ?_
  refine ax_mv 2 7 [some (.ref (B + 56)), some (ax_i x1), some (ax_i (V 556 1))] [.ref (B + 56), .ref (B + 56)] rfl ?_
  refine ax_gI (kI := 1) (pc' := 10) ⟨_, rfl⟩ fl_0_68 (az_b 56 rfl) rfl rfl rfl ?_
  refine ax_mv 1 11 [some (.ref (B + 56)), some (ax_i x1), some (ax_i (V 556 1))] [ax_i 1, ax_i (V 556 1), .ref (B + 56)] rfl ?_
  refine ax_add (pc' := 12) ⟨_, rfl⟩ rfl ?_
  obtain ⟨o1, h⟩ := h
  obtain ⟨V1, eV1⟩ : ∃ W9 : ax_V, W9 = ax_u V 556 1 ((V 556 1) + 1) := ⟨_, rfl⟩
  have h := h V1 eV1
  have hg1 : ax_g V1 := eV1 ▸ ax_u_g hg o1
  refine ax_pI (kI := 1) (pc' := 15) ⟨_, rfl⟩ fl_0_68 az_ok (az_b 56 rfl) rfl rfl rfl rfl eV1 rfl ?_
  refine ax_mv 1 16 [some (.ref (B + 56)), some (ax_i x1), some (ax_i (V 556 1))] [.ref (B + 56)] rfl ?_
  refine ax_gR (v := .ref (B + 58)) (pc' := 19) ⟨_, rfl⟩ fl_0_15 (az_b 56 rfl) rfl rfl ?_
  refine ax_mv 2 21 [some (.ref (B + 56)), some (ax_i x1), some (ax_i (V 556 1))] [ax_i 1, ax_i x1, .ref (B + 58)] rfl ?_
  refine ax_add (pc' := 22) ⟨_, rfl⟩ rfl ?_
  refine ax_mv 1 23 [some (.ref (B + 56)), some (ax_i x1), some (ax_i (V 556 1))] [.ref (B + 56), ax_i (x1 + 1), .ref (B + 58)] rfl ?_
  refine ax_gI (kI := 1) (pc' := 26) ⟨_, rfl⟩ fl_0_68 (az_b 56 rfl) rfl rfl rfl ?_
  obtain ⟨o2, h⟩ := h
  obtain ⟨V2, eV2⟩ : ∃ W9 : ax_V, W9 = ax_u V1 558 (x1 + 1) (V1 556 1) := ⟨_, rfl⟩
  have h := h V2 eV2
  have hg2 : ax_g V2 := eV2 ▸ ax_u_g hg1 (hg1 _ _)
  refine ax_ist (n := 351) (pc' := 27) ⟨_, rfl⟩ az_ok (az_b 58 rfl) (by decide) o2 eV2 rfl ?_
  refine ax_mv 1 28 [some (.ref (B + 56)), some (ax_i x1), some (ax_i (V 556 1))] [.ref (B + 56)] rfl ?_
  refine ax_gR (v := .ref (B + 63)) (pc' := 31) ⟨_, rfl⟩ fl_0_31 (az_b 56 rfl) rfl rfl ?_
  refine ax_mv 2 33 [some (.ref (B + 56)), some (ax_i x1), some (ax_i (V 556 1))] [ax_i x1, ax_i (V 556 1), .ref (B + 63)] rfl ?_
  obtain ⟨o3, h⟩ := h
  obtain ⟨V3, eV3⟩ : ∃ W9 : ax_V, W9 = ax_u V2 563 (V 556 1) x1 := ⟨_, rfl⟩
  have h := h V3 eV3
  have hg3 : ax_g V3 := eV3 ▸ ax_u_g hg2 hx1
  refine ax_ist (n := 350) (pc' := 34) ⟨_, rfl⟩ az_ok (az_b 63 rfl) (by decide) o3 eV3 rfl ?_
  refine ax_mv 1 35 [some (.ref (B + 56)), some (ax_i x1), some (ax_i (V 556 1))] [.ref (B + 56)] rfl ?_
  refine ax_gR (v := .ref (B + 64)) (pc' := 38) ⟨_, rfl⟩ fl_0_34 (az_b 56 rfl) rfl rfl ?_
  refine ax_mv 2 40 [some (.ref (B + 56)), some (ax_i x1), some (ax_i (V 556 1))] [ax_i 0, ax_i (V 556 1), .ref (B + 64)] rfl ?_
  obtain ⟨o4, h⟩ := h
  obtain ⟨V4, eV4⟩ : ∃ W9 : ax_V, W9 = ax_u V3 564 (V 556 1) 0 := ⟨_, rfl⟩
  have h := h V4 eV4
  have hg4 : ax_g V4 := eV4 ▸ ax_u_g hg3 (by decide)
  refine ax_ist (n := 350) (pc' := 41) ⟨_, rfl⟩ az_ok (az_b 64 rfl) (by decide) o4 eV4 rfl ?_
  refine ax_mv 1 42 [some (.ref (B + 56)), some (ax_i x1), some (ax_i (V 556 1))] [.ref (B + 56)] rfl ?_
  refine ax_gR (v := .ref (B + 65)) (pc' := 45) ⟨_, rfl⟩ fl_0_37 (az_b 56 rfl) rfl rfl ?_
  refine ax_mv 2 47 [some (.ref (B + 56)), some (ax_i x1), some (ax_i (V 556 1))] [ax_i 0, ax_i (V 556 1), .ref (B + 65)] rfl ?_
  obtain ⟨o5, h⟩ := h
  obtain ⟨V5, eV5⟩ : ∃ W9 : ax_V, W9 = ax_u V4 565 (V 556 1) 0 := ⟨_, rfl⟩
  have h := h V5 eV5
  have hg5 : ax_g V5 := eV5 ▸ ax_u_g hg4 (by decide)
  refine ax_ist (n := 350) (pc' := 48) ⟨_, rfl⟩ az_ok (az_b 65 rfl) (by decide) o5 eV5 rfl ?_
  refine ax_mv 1 49 [some (.ref (B + 56)), some (ax_i x1), some (ax_i (V 556 1))] [.ref (B + 56)] rfl ?_
  refine ax_gR (v := .ref (B + 66)) (pc' := 52) ⟨_, rfl⟩ fl_0_40 (az_b 56 rfl) rfl rfl ?_
  refine ax_mv 2 54 [some (.ref (B + 56)), some (ax_i x1), some (ax_i (V 556 1))] [ax_i 0, ax_i (V 556 1), .ref (B + 66)] rfl ?_
  obtain ⟨o6, h⟩ := h
  obtain ⟨V6, eV6⟩ : ∃ W9 : ax_V, W9 = ax_u V5 566 (V 556 1) 0 := ⟨_, rfl⟩
  have h := h V6 eV6
  have hg6 : ax_g V6 := eV6 ▸ ax_u_g hg5 (by decide)
  refine ax_ist (n := 350) (pc' := 55) ⟨_, rfl⟩ az_ok (az_b 66 rfl) (by decide) o6 eV6 rfl ?_
  refine ax_mv 1 56 [some (.ref (B + 56)), some (ax_i x1), some (ax_i (V 556 1))] [ax_i (V 556 1)] rfl ?_
  exact ax_iret ⟨_, rfl⟩ rfl rfl (hg _ _) hg6 h
theorem r_Equations_add {B : Nat} {E : List (Nat × ax_S)} {d : Nat} {V : ax_V} {Φ : Int → ax_V → Prop} {Θ : ax_V → Prop} {x1 : Int} {x2 : Int} (hg : ax_g V) (hx1 : ax_rg x1) (hx2 : ax_rg x2) (h : ax_rg ((V 547 0) + 1) ∧ (∀ V1, V1 = ax_u V 547 0 ((V 547 0) + 1) → (0 ≤ V 547 0 ∧ V 547 0 < 351) ∧ (∀ V2, V2 = ax_u V1 548 (V 547 0) (V1 547 1) → (0 ≤ (V 547 0) + 1 ∧ (V 547 0) + 1 < 351) ∧ (∀ V3, V3 = ax_u V2 548 ((V 547 0) + 1) (V2 547 1) → (0 ≤ V 547 0 ∧ V 547 0 < 350) ∧ (∀ V4, V4 = ax_u V3 549 (V 547 0) x2 → (0 ≤ V 547 0 ∧ V 547 0 < 350) ∧ (∀ V5, V5 = ax_u V4 550 (V 547 0) x2 → (0 ≤ V 547 0 ∧ V 547 0 < 350) ∧ (∀ V6, V6 = ax_u V5 551 (V 547 0) x1 → (0 ≤ V 547 0 ∧ V 547 0 < 350) ∧ (∀ V7, V7 = ax_u V6 552 (V 547 0) 0 → (0 ≤ V 547 0 ∧ V 547 0 < 350) ∧ (∀ V8, V8 = ax_u V7 553 (V 547 0) 0 → Φ (V 547 0) V8))))))))) : ax_I (az_W B E) (d + 1) q_Equations_add [.ref (B + 47), ax_i x1, ax_i x2] V Φ Θ := by
  refine ax_T.of (M := m_Equations_add) rfl (Nat.le_of_ble_eq_true rfl) ?_
  refine ax_mv 0 0 [some (.ref (B + 47)), some (ax_i x1), some (ax_i x2), none] [] rfl ?_
  refine ax_mv 1 1 [some (.ref (B + 47)), some (ax_i x1), some (ax_i x2), none] [.ref (B + 47)] rfl ?_
  refine ax_gI (kI := 0) (pc' := 4) ⟨_, rfl⟩ fl_1_37 (az_b 47 rfl) rfl rfl rfl ?_
  refine ax_sti (i := 0) (k := 3) (n := 1) (pc' := 5) (L' := [some (.ref (B + 47)), some (ax_i x1), some (ax_i x2), some (ax_i (V 547 0))]) ⟨_, rfl⟩ rfl rfl rfl (Nat.le_of_ble_eq_true rfl) rfl rfl ?_
  refine ax_mv 2 7 [some (.ref (B + 47)), some (ax_i x1), some (ax_i x2), some (ax_i (V 547 0))] [.ref (B + 47), .ref (B + 47)] rfl ?_
  refine ax_gI (kI := 0) (pc' := 10) ⟨_, rfl⟩ fl_1_37 (az_b 47 rfl) rfl rfl rfl ?_
  refine ax_mv 1 11 [some (.ref (B + 47)), some (ax_i x1), some (ax_i x2), some (ax_i (V 547 0))] [ax_i 1, ax_i (V 547 0), .ref (B + 47)] rfl ?_
  refine ax_add (pc' := 12) ⟨_, rfl⟩ rfl ?_
  obtain ⟨o1, h⟩ := h
  obtain ⟨V1, eV1⟩ : ∃ W9 : ax_V, W9 = ax_u V 547 0 ((V 547 0) + 1) := ⟨_, rfl⟩
  have h := h V1 eV1
  have hg1 : ax_g V1 := eV1 ▸ ax_u_g hg o1
  refine ax_pI (kI := 0) (pc' := 15) ⟨_, rfl⟩ fl_1_37 az_ok (az_b 47 rfl) rfl rfl rfl rfl eV1 rfl ?_
  refine ax_mv 1 16 [some (.ref (B + 47)), some (ax_i x1), some (ax_i x2), some (ax_i (V 547 0))] [.ref (B + 47)] rfl ?_
  refine ax_gR (v := .ref (B + 48)) (pc' := 19) ⟨_, rfl⟩ fl_1_9 (az_b 47 rfl) rfl rfl ?_
  refine ax_mv 2 21 [some (.ref (B + 47)), some (ax_i x1), some (ax_i x2), some (ax_i (V 547 0))] [.ref (B + 47), ax_i (V 547 0), .ref (B + 48)] rfl ?_
  refine ax_gI (kI := 1) (pc' := 24) ⟨_, rfl⟩ fl_1_41 (az_b 47 rfl) rfl rfl rfl ?_
  obtain ⟨o2, h⟩ := h
  obtain ⟨V2, eV2⟩ : ∃ W9 : ax_V, W9 = ax_u V1 548 (V 547 0) (V1 547 1) := ⟨_, rfl⟩
  have h := h V2 eV2
  have hg2 : ax_g V2 := eV2 ▸ ax_u_g hg1 (hg1 _ _)
  refine ax_ist (n := 351) (pc' := 25) ⟨_, rfl⟩ az_ok (az_b 48 rfl) (by decide) o2 eV2 rfl ?_
  refine ax_mv 1 26 [some (.ref (B + 47)), some (ax_i x1), some (ax_i x2), some (ax_i (V 547 0))] [.ref (B + 47)] rfl ?_
  refine ax_gR (v := .ref (B + 48)) (pc' := 29) ⟨_, rfl⟩ fl_1_9 (az_b 47 rfl) rfl rfl ?_
  refine ax_mv 2 31 [some (.ref (B + 47)), some (ax_i x1), some (ax_i x2), some (ax_i (V 547 0))] [ax_i 1, ax_i (V 547 0), .ref (B + 48)] rfl ?_
  refine ax_add (pc' := 32) ⟨_, rfl⟩ rfl ?_
  refine ax_mv 1 33 [some (.ref (B + 47)), some (ax_i x1), some (ax_i x2), some (ax_i (V 547 0))] [.ref (B + 47), ax_i ((V 547 0) + 1), .ref (B + 48)] rfl ?_
  refine ax_gI (kI := 1) (pc' := 36) ⟨_, rfl⟩ fl_1_41 (az_b 47 rfl) rfl rfl rfl ?_
  obtain ⟨o3, h⟩ := h
  obtain ⟨V3, eV3⟩ : ∃ W9 : ax_V, W9 = ax_u V2 548 ((V 547 0) + 1) (V2 547 1) := ⟨_, rfl⟩
  have h := h V3 eV3
  have hg3 : ax_g V3 := eV3 ▸ ax_u_g hg2 (hg2 _ _)
  refine ax_ist (n := 351) (pc' := 37) ⟨_, rfl⟩ az_ok (az_b 48 rfl) (by decide) o3 eV3 rfl ?_
  refine ax_mv 1 38 [some (.ref (B + 47)), some (ax_i x1), some (ax_i x2), some (ax_i (V 547 0))] [.ref (B + 47)] rfl ?_
  refine ax_gR (v := .ref (B + 49)) (pc' := 41) ⟨_, rfl⟩ fl_1_15 (az_b 47 rfl) rfl rfl ?_
  refine ax_mv 2 43 [some (.ref (B + 47)), some (ax_i x1), some (ax_i x2), some (ax_i (V 547 0))] [ax_i x2, ax_i (V 547 0), .ref (B + 49)] rfl ?_
  obtain ⟨o4, h⟩ := h
  obtain ⟨V4, eV4⟩ : ∃ W9 : ax_V, W9 = ax_u V3 549 (V 547 0) x2 := ⟨_, rfl⟩
  have h := h V4 eV4
  have hg4 : ax_g V4 := eV4 ▸ ax_u_g hg3 hx2
  refine ax_ist (n := 350) (pc' := 44) ⟨_, rfl⟩ az_ok (az_b 49 rfl) (by decide) o4 eV4 rfl ?_
  refine ax_mv 1 45 [some (.ref (B + 47)), some (ax_i x1), some (ax_i x2), some (ax_i (V 547 0))] [.ref (B + 47)] rfl ?_
  refine ax_gR (v := .ref (B + 50)) (pc' := 48) ⟨_, rfl⟩ fl_1_18 (az_b 47 rfl) rfl rfl ?_
  refine ax_mv 2 50 [some (.ref (B + 47)), some (ax_i x1), some (ax_i x2), some (ax_i (V 547 0))] [ax_i x2, ax_i (V 547 0), .ref (B + 50)] rfl ?_
  obtain ⟨o5, h⟩ := h
  obtain ⟨V5, eV5⟩ : ∃ W9 : ax_V, W9 = ax_u V4 550 (V 547 0) x2 := ⟨_, rfl⟩
  have h := h V5 eV5
  have hg5 : ax_g V5 := eV5 ▸ ax_u_g hg4 hx2
  refine ax_ist (n := 350) (pc' := 51) ⟨_, rfl⟩ az_ok (az_b 50 rfl) (by decide) o5 eV5 rfl ?_
  refine ax_mv 1 52 [some (.ref (B + 47)), some (ax_i x1), some (ax_i x2), some (ax_i (V 547 0))] [.ref (B + 47)] rfl ?_
  refine ax_gR (v := .ref (B + 51)) (pc' := 55) ⟨_, rfl⟩ fl_1_21 (az_b 47 rfl) rfl rfl ?_
  refine ax_mv 2 57 [some (.ref (B + 47)), some (ax_i x1), some (ax_i x2), some (ax_i (V 547 0))] [ax_i x1, ax_i (V 547 0), .ref (B + 51)] rfl ?_
  obtain ⟨o6, h⟩ := h
  obtain ⟨V6, eV6⟩ : ∃ W9 : ax_V, W9 = ax_u V5 551 (V 547 0) x1 := ⟨_, rfl⟩
  have h := h V6 eV6
  have hg6 : ax_g V6 := eV6 ▸ ax_u_g hg5 hx1
  refine ax_ist (n := 350) (pc' := 58) ⟨_, rfl⟩ az_ok (az_b 51 rfl) (by decide) o6 eV6 rfl ?_
  refine ax_mv 1 59 [some (.ref (B + 47)), some (ax_i x1), some (ax_i x2), some (ax_i (V 547 0))] [.ref (B + 47)] rfl ?_
  refine ax_gR (v := .ref (B + 52)) (pc' := 62) ⟨_, rfl⟩ fl_1_24 (az_b 47 rfl) rfl rfl ?_
  refine ax_mv 2 64 [some (.ref (B + 47)), some (ax_i x1), some (ax_i x2), some (ax_i (V 547 0))] [ax_i 0, ax_i (V 547 0), .ref (B + 52)] rfl ?_
  obtain ⟨o7, h⟩ := h
  obtain ⟨V7, eV7⟩ : ∃ W9 : ax_V, W9 = ax_u V6 552 (V 547 0) 0 := ⟨_, rfl⟩
  have h := h V7 eV7
  have hg7 : ax_g V7 := eV7 ▸ ax_u_g hg6 (by decide)
  refine ax_ist (n := 350) (pc' := 65) ⟨_, rfl⟩ az_ok (az_b 52 rfl) (by decide) o7 eV7 rfl ?_
  refine ax_mv 1 66 [some (.ref (B + 47)), some (ax_i x1), some (ax_i x2), some (ax_i (V 547 0))] [.ref (B + 47)] rfl ?_
  refine ax_gR (v := .ref (B + 53)) (pc' := 69) ⟨_, rfl⟩ fl_1_27 (az_b 47 rfl) rfl rfl ?_
  refine ax_mv 2 71 [some (.ref (B + 47)), some (ax_i x1), some (ax_i x2), some (ax_i (V 547 0))] [ax_i 0, ax_i (V 547 0), .ref (B + 53)] rfl ?_
  obtain ⟨o8, h⟩ := h
  obtain ⟨V8, eV8⟩ : ∃ W9 : ax_V, W9 = ax_u V7 553 (V 547 0) 0 := ⟨_, rfl⟩
  have h := h V8 eV8
  have hg8 : ax_g V8 := eV8 ▸ ax_u_g hg7 (by decide)
  refine ax_bst (n := 350) (pc' := 72) ⟨_, rfl⟩ az_ok (az_b 53 rfl) (by decide) o8 (by decide) eV8 rfl ?_
  refine ax_mv 1 73 [some (.ref (B + 47)), some (ax_i x1), some (ax_i x2), some (ax_i (V 547 0))] [ax_i (V 547 0)] rfl ?_
  exact ax_iret ⟨_, rfl⟩ rfl rfl (hg _ _) hg8 h
theorem r_Equations_addHead {B : Nat} {E : List (Nat × ax_S)} {d : Nat} {V : ax_V} {Φ : ax_V → Prop} {Θ : ax_V → Prop} {x1 : Int} {x2 : Int} {x3 : Int} (hg : ax_g V) (hx1 : ax_rg x1) (hx2 : ax_rg x2) (hx3 : ax_rg x3) (h : (0 ≤ V 547 1 ∧ V 547 1 < 350) ∧ (∀ V1, V1 = ax_u V 554 (V 547 1) x2 → (0 ≤ V1 547 1 ∧ V1 547 1 < 350) ∧ (∀ V2, V2 = ax_u V1 555 (V1 547 1) x3 → ax_rg ((V2 547 1) + 1) ∧ (∀ V3, V3 = ax_u V2 547 1 ((V2 547 1) + 1) → (0 ≤ x1 + 1 ∧ x1 + 1 < 351) ∧ (∀ V4, V4 = ax_u V3 548 (x1 + 1) (V3 547 1) → Φ V4))))) : ax_N (az_W B E) (d + 1) q_Equations_addHead [.ref (B + 47), ax_i x1, ax_i x2, ax_i x3] V Φ Θ := by
  refine ax_T.of (M := m_Equations_addHead) rfl (Nat.le_of_ble_eq_true rfl) ?_
  refine ax_mv 0 0 [some (.ref (B + 47)), some (ax_i x1), some (ax_i x2), some (ax_i x3)] [] rfl ?_
  refine ax_mv 1 1 [some (.ref (B + 47)), some (ax_i x1), some (ax_i x2), some (ax_i x3)] [.ref (B + 47)] rfl ?_
  refine ax_gR (v := .ref (B + 54)) (pc' := 4) ⟨_, rfl⟩ fl_1_31 (az_b 47 rfl) rfl rfl ?_
  refine ax_mv 1 5 [some (.ref (B + 47)), some (ax_i x1), some (ax_i x2), some (ax_i x3)] [.ref (B + 47), .ref (B + 54)] rfl ?_
  refine ax_gI (kI := 1) (pc' := 8) ⟨_, rfl⟩ fl_1_41 (az_b 47 rfl) rfl rfl rfl ?_
  refine ax_mv 1 9 [some (.ref (B + 47)), some (ax_i x1), some (ax_i x2), some (ax_i x3)] [ax_i x2, ax_i (V 547 1), .ref (B + 54)] rfl ?_
  obtain ⟨o1, h⟩ := h
  obtain ⟨V1, eV1⟩ : ∃ W9 : ax_V, W9 = ax_u V 554 (V 547 1) x2 := ⟨_, rfl⟩
  have h := h V1 eV1
  have hg1 : ax_g V1 := eV1 ▸ ax_u_g hg hx2
  refine ax_ist (n := 350) (pc' := 10) ⟨_, rfl⟩ az_ok (az_b 54 rfl) (by decide) o1 eV1 rfl ?_
  refine ax_mv 1 11 [some (.ref (B + 47)), some (ax_i x1), some (ax_i x2), some (ax_i x3)] [.ref (B + 47)] rfl ?_
  refine ax_gR (v := .ref (B + 55)) (pc' := 14) ⟨_, rfl⟩ fl_1_34 (az_b 47 rfl) rfl rfl ?_
  refine ax_mv 1 15 [some (.ref (B + 47)), some (ax_i x1), some (ax_i x2), some (ax_i x3)] [.ref (B + 47), .ref (B + 55)] rfl ?_
  refine ax_gI (kI := 1) (pc' := 18) ⟨_, rfl⟩ fl_1_41 (az_b 47 rfl) rfl rfl rfl ?_
  refine ax_mv 1 19 [some (.ref (B + 47)), some (ax_i x1), some (ax_i x2), some (ax_i x3)] [ax_i x3, ax_i (V1 547 1), .ref (B + 55)] rfl ?_
  obtain ⟨o2, h⟩ := h
  obtain ⟨V2, eV2⟩ : ∃ W9 : ax_V, W9 = ax_u V1 555 (V1 547 1) x3 := ⟨_, rfl⟩
  have h := h V2 eV2
  have hg2 : ax_g V2 := eV2 ▸ ax_u_g hg1 hx3
  refine ax_ist (n := 350) (pc' := 20) ⟨_, rfl⟩ az_ok (az_b 55 rfl) (by decide) o2 eV2 rfl ?_
  refine ax_mv 2 22 [some (.ref (B + 47)), some (ax_i x1), some (ax_i x2), some (ax_i x3)] [.ref (B + 47), .ref (B + 47)] rfl ?_
  refine ax_gI (kI := 1) (pc' := 25) ⟨_, rfl⟩ fl_1_41 (az_b 47 rfl) rfl rfl rfl ?_
  refine ax_mv 1 26 [some (.ref (B + 47)), some (ax_i x1), some (ax_i x2), some (ax_i x3)] [ax_i 1, ax_i (V2 547 1), .ref (B + 47)] rfl ?_
  refine ax_add (pc' := 27) ⟨_, rfl⟩ rfl ?_
  obtain ⟨o3, h⟩ := h
  obtain ⟨V3, eV3⟩ : ∃ W9 : ax_V, W9 = ax_u V2 547 1 ((V2 547 1) + 1) := ⟨_, rfl⟩
  have h := h V3 eV3
  have hg3 : ax_g V3 := eV3 ▸ ax_u_g hg2 o3
  refine ax_pI (kI := 1) (pc' := 30) ⟨_, rfl⟩ fl_1_41 az_ok (az_b 47 rfl) rfl rfl rfl rfl eV3 rfl ?_
  refine ax_mv 1 31 [some (.ref (B + 47)), some (ax_i x1), some (ax_i x2), some (ax_i x3)] [.ref (B + 47)] rfl ?_
  refine ax_gR (v := .ref (B + 48)) (pc' := 34) ⟨_, rfl⟩ fl_1_9 (az_b 47 rfl) rfl rfl ?_
  refine ax_mv 2 36 [some (.ref (B + 47)), some (ax_i x1), some (ax_i x2), some (ax_i x3)] [ax_i 1, ax_i x1, .ref (B + 48)] rfl ?_
  refine ax_add (pc' := 37) ⟨_, rfl⟩ rfl ?_
  refine ax_mv 1 38 [some (.ref (B + 47)), some (ax_i x1), some (ax_i x2), some (ax_i x3)] [.ref (B + 47), ax_i (x1 + 1), .ref (B + 48)] rfl ?_
  refine ax_gI (kI := 1) (pc' := 41) ⟨_, rfl⟩ fl_1_41 (az_b 47 rfl) rfl rfl rfl ?_
  obtain ⟨o4, h⟩ := h
  obtain ⟨V4, eV4⟩ : ∃ W9 : ax_V, W9 = ax_u V3 548 (x1 + 1) (V3 547 1) := ⟨_, rfl⟩
  have h := h V4 eV4
  have hg4 : ax_g V4 := eV4 ▸ ax_u_g hg3 (hg3 _ _)
  refine ax_ist (n := 351) (pc' := 42) ⟨_, rfl⟩ az_ok (az_b 48 rfl) (by decide) o4 eV4 rfl ?_
  exact ax_nret ⟨_, rfl⟩ rfl hg4 h
set_option maxRecDepth 20000 in
theorem r_Parts_add {B : Nat} {E : List (Nat × ax_S)} {d : Nat} {V : ax_V} {Φ : Int → ax_V → Prop} {Θ : ax_V → Prop} {x1 : Int} {x2 : Int} {x3 : Int} {x4 : Int} (hg : ax_g V) (hx1 : ax_rg x1) (hx2 : ax_rg x2) (hx3 : ax_rg x3) (hx4 : ax_rg x4) (h : ax_rg ((V 516 0) + 1) ∧ (∀ V1, V1 = ax_u V 516 0 ((V 516 0) + 1) → (0 ≤ V 516 0 ∧ V 516 0 < 700) ∧ (∀ V2, V2 = ax_u V1 517 (V 516 0) x1 → (0 ≤ V 516 0 ∧ V 516 0 < 700) ∧ (∀ V3, V3 = ax_u V2 518 (V 516 0) x2 → (0 ≤ V 516 0 ∧ V 516 0 < 700) ∧ (∀ V4, V4 = ax_u V3 519 (V 516 0) x3 → (0 ≤ V 516 0 ∧ V 516 0 < 700) ∧ (∀ V5, V5 = ax_u V4 520 (V 516 0) x4 → (0 ≤ V 516 0 ∧ V 516 0 < 700) ∧ (∀ V6, V6 = ax_u V5 521 (V 516 0) (-1) → (0 ≤ V 516 0 ∧ V 516 0 < 700) ∧ (∀ V7, V7 = ax_u V6 522 (V 516 0) (-1) → (0 ≤ V 516 0 ∧ V 516 0 < 700) ∧ (∀ V8, V8 = ax_u V7 523 (V 516 0) (-1) → (0 ≤ V 516 0 ∧ V 516 0 < 700) ∧ (∀ V9, V9 = ax_u V8 524 (V 516 0) (-1) → (0 ≤ V 516 0 ∧ V 516 0 < 700) ∧ (∀ V10, V10 = ax_u V9 527 (V 516 0) 0 → (0 ≤ V 516 0 ∧ V 516 0 < 700) ∧ (∀ V11, V11 = ax_u V10 531 (V 516 0) (-1) → Φ (V 516 0) V11)))))))))))) : ax_I (az_W B E) (d + 1) q_Parts_add [.ref (B + 16), ax_i x1, ax_i x2, ax_i x3, ax_i x4] V Φ Θ := by
  refine ax_T.of (M := m_Parts_add) rfl (Nat.le_of_ble_eq_true rfl) ?_
  refine ax_mv 0 0 [some (.ref (B + 16)), some (ax_i x1), some (ax_i x2), some (ax_i x3), some (ax_i x4), none] [] rfl ?_
  refine ax_mv 1 1 [some (.ref (B + 16)), some (ax_i x1), some (ax_i x2), some (ax_i x3), some (ax_i x4), none] [.ref (B + 16)] rfl ?_
  refine ax_gI (kI := 0) (pc' := 4) ⟨_, rfl⟩ fl_6_58 (az_b 16 rfl) rfl rfl rfl ?_
  refine ax_sti (i := 0) (k := 5) (n := 2) (pc' := 6) (L' := [some (.ref (B + 16)), some (ax_i x1), some (ax_i x2), some (ax_i x3), some (ax_i x4), some (ax_i (V 516 0))]) ⟨_, rfl⟩ rfl rfl rfl (Nat.le_of_ble_eq_true rfl) rfl rfl ?_
  refine ax_mv 2 8 [some (.ref (B + 16)), some (ax_i x1), some (ax_i x2), some (ax_i x3), some (ax_i x4), some (ax_i (V 516 0))] [.ref (B + 16), .ref (B + 16)] rfl ?_
  refine ax_gI (kI := 0) (pc' := 11) ⟨_, rfl⟩ fl_6_58 (az_b 16 rfl) rfl rfl rfl ?_
  refine ax_mv 1 12 [some (.ref (B + 16)), some (ax_i x1), some (ax_i x2), some (ax_i x3), some (ax_i x4), some (ax_i (V 516 0))] [ax_i 1, ax_i (V 516 0), .ref (B + 16)] rfl ?_
  refine ax_add (pc' := 13) ⟨_, rfl⟩ rfl ?_
  obtain ⟨o1, h⟩ := h
  obtain ⟨V1, eV1⟩ : ∃ W9 : ax_V, W9 = ax_u V 516 0 ((V 516 0) + 1) := ⟨_, rfl⟩
  have h := h V1 eV1
  have hg1 : ax_g V1 := eV1 ▸ ax_u_g hg o1
  refine ax_pI (kI := 0) (pc' := 16) ⟨_, rfl⟩ fl_6_58 az_ok (az_b 16 rfl) rfl rfl rfl rfl eV1 rfl ?_
  refine ax_mv 1 17 [some (.ref (B + 16)), some (ax_i x1), some (ax_i x2), some (ax_i x3), some (ax_i x4), some (ax_i (V 516 0))] [.ref (B + 16)] rfl ?_
  refine ax_gR (v := .ref (B + 17)) (pc' := 20) ⟨_, rfl⟩ fl_6_9 (az_b 16 rfl) rfl rfl ?_
  refine ax_mv 2 23 [some (.ref (B + 16)), some (ax_i x1), some (ax_i x2), some (ax_i x3), some (ax_i x4), some (ax_i (V 516 0))] [ax_i x1, ax_i (V 516 0), .ref (B + 17)] rfl ?_
  obtain ⟨o2, h⟩ := h
  obtain ⟨V2, eV2⟩ : ∃ W9 : ax_V, W9 = ax_u V1 517 (V 516 0) x1 := ⟨_, rfl⟩
  have h := h V2 eV2
  have hg2 : ax_g V2 := eV2 ▸ ax_u_g hg1 hx1
  refine ax_ist (n := 700) (pc' := 24) ⟨_, rfl⟩ az_ok (az_b 17 rfl) (by decide) o2 eV2 rfl ?_
  refine ax_mv 1 25 [some (.ref (B + 16)), some (ax_i x1), some (ax_i x2), some (ax_i x3), some (ax_i x4), some (ax_i (V 516 0))] [.ref (B + 16)] rfl ?_
  refine ax_gR (v := .ref (B + 18)) (pc' := 28) ⟨_, rfl⟩ fl_6_15 (az_b 16 rfl) rfl rfl ?_
  refine ax_mv 2 31 [some (.ref (B + 16)), some (ax_i x1), some (ax_i x2), some (ax_i x3), some (ax_i x4), some (ax_i (V 516 0))] [ax_i x2, ax_i (V 516 0), .ref (B + 18)] rfl ?_
  obtain ⟨o3, h⟩ := h
  obtain ⟨V3, eV3⟩ : ∃ W9 : ax_V, W9 = ax_u V2 518 (V 516 0) x2 := ⟨_, rfl⟩
  have h := h V3 eV3
  have hg3 : ax_g V3 := eV3 ▸ ax_u_g hg2 hx2
  refine ax_ist (n := 700) (pc' := 32) ⟨_, rfl⟩ az_ok (az_b 18 rfl) (by decide) o3 eV3 rfl ?_
  refine ax_mv 1 33 [some (.ref (B + 16)), some (ax_i x1), some (ax_i x2), some (ax_i x3), some (ax_i x4), some (ax_i (V 516 0))] [.ref (B + 16)] rfl ?_
  refine ax_gR (v := .ref (B + 19)) (pc' := 36) ⟨_, rfl⟩ fl_6_18 (az_b 16 rfl) rfl rfl ?_
  refine ax_mv 2 39 [some (.ref (B + 16)), some (ax_i x1), some (ax_i x2), some (ax_i x3), some (ax_i x4), some (ax_i (V 516 0))] [ax_i x3, ax_i (V 516 0), .ref (B + 19)] rfl ?_
  obtain ⟨o4, h⟩ := h
  obtain ⟨V4, eV4⟩ : ∃ W9 : ax_V, W9 = ax_u V3 519 (V 516 0) x3 := ⟨_, rfl⟩
  have h := h V4 eV4
  have hg4 : ax_g V4 := eV4 ▸ ax_u_g hg3 hx3
  refine ax_ist (n := 700) (pc' := 40) ⟨_, rfl⟩ az_ok (az_b 19 rfl) (by decide) o4 eV4 rfl ?_
  refine ax_mv 1 41 [some (.ref (B + 16)), some (ax_i x1), some (ax_i x2), some (ax_i x3), some (ax_i x4), some (ax_i (V 516 0))] [.ref (B + 16)] rfl ?_
  refine ax_gR (v := .ref (B + 20)) (pc' := 44) ⟨_, rfl⟩ fl_6_21 (az_b 16 rfl) rfl rfl ?_
  refine ax_mv 2 48 [some (.ref (B + 16)), some (ax_i x1), some (ax_i x2), some (ax_i x3), some (ax_i x4), some (ax_i (V 516 0))] [ax_i x4, ax_i (V 516 0), .ref (B + 20)] rfl ?_
  obtain ⟨o5, h⟩ := h
  obtain ⟨V5, eV5⟩ : ∃ W9 : ax_V, W9 = ax_u V4 520 (V 516 0) x4 := ⟨_, rfl⟩
  have h := h V5 eV5
  have hg5 : ax_g V5 := eV5 ▸ ax_u_g hg4 hx4
  refine ax_ist (n := 700) (pc' := 49) ⟨_, rfl⟩ az_ok (az_b 20 rfl) (by decide) o5 eV5 rfl ?_
  refine ax_mv 1 50 [some (.ref (B + 16)), some (ax_i x1), some (ax_i x2), some (ax_i x3), some (ax_i x4), some (ax_i (V 516 0))] [.ref (B + 16)] rfl ?_
  refine ax_gR (v := .ref (B + 21)) (pc' := 53) ⟨_, rfl⟩ fl_6_24 (az_b 16 rfl) rfl rfl ?_
  refine ax_mv 2 56 [some (.ref (B + 16)), some (ax_i x1), some (ax_i x2), some (ax_i x3), some (ax_i x4), some (ax_i (V 516 0))] [ax_i (-1), ax_i (V 516 0), .ref (B + 21)] rfl ?_
  obtain ⟨o6, h⟩ := h
  obtain ⟨V6, eV6⟩ : ∃ W9 : ax_V, W9 = ax_u V5 521 (V 516 0) (-1) := ⟨_, rfl⟩
  have h := h V6 eV6
  have hg6 : ax_g V6 := eV6 ▸ ax_u_g hg5 (by decide)
  refine ax_ist (n := 700) (pc' := 57) ⟨_, rfl⟩ az_ok (az_b 21 rfl) (by decide) o6 eV6 rfl ?_
  refine ax_mv 1 58 [some (.ref (B + 16)), some (ax_i x1), some (ax_i x2), some (ax_i x3), some (ax_i x4), some (ax_i (V 516 0))] [.ref (B + 16)] rfl ?_
  refine ax_gR (v := .ref (B + 22)) (pc' := 61) ⟨_, rfl⟩ fl_6_27 (az_b 16 rfl) rfl rfl ?_
  refine ax_mv 2 64 [some (.ref (B + 16)), some (ax_i x1), some (ax_i x2), some (ax_i x3), some (ax_i x4), some (ax_i (V 516 0))] [ax_i (-1), ax_i (V 516 0), .ref (B + 22)] rfl ?_
  obtain ⟨o7, h⟩ := h
  obtain ⟨V7, eV7⟩ : ∃ W9 : ax_V, W9 = ax_u V6 522 (V 516 0) (-1) := ⟨_, rfl⟩
  have h := h V7 eV7
  have hg7 : ax_g V7 := eV7 ▸ ax_u_g hg6 (by decide)
  refine ax_ist (n := 700) (pc' := 65) ⟨_, rfl⟩ az_ok (az_b 22 rfl) (by decide) o7 eV7 rfl ?_
  refine ax_mv 1 66 [some (.ref (B + 16)), some (ax_i x1), some (ax_i x2), some (ax_i x3), some (ax_i x4), some (ax_i (V 516 0))] [.ref (B + 16)] rfl ?_
  refine ax_gR (v := .ref (B + 23)) (pc' := 69) ⟨_, rfl⟩ fl_6_30 (az_b 16 rfl) rfl rfl ?_
  refine ax_mv 2 72 [some (.ref (B + 16)), some (ax_i x1), some (ax_i x2), some (ax_i x3), some (ax_i x4), some (ax_i (V 516 0))] [ax_i (-1), ax_i (V 516 0), .ref (B + 23)] rfl ?_
  obtain ⟨o8, h⟩ := h
  obtain ⟨V8, eV8⟩ : ∃ W9 : ax_V, W9 = ax_u V7 523 (V 516 0) (-1) := ⟨_, rfl⟩
  have h := h V8 eV8
  have hg8 : ax_g V8 := eV8 ▸ ax_u_g hg7 (by decide)
  refine ax_ist (n := 700) (pc' := 73) ⟨_, rfl⟩ az_ok (az_b 23 rfl) (by decide) o8 eV8 rfl ?_
  refine ax_mv 1 74 [some (.ref (B + 16)), some (ax_i x1), some (ax_i x2), some (ax_i x3), some (ax_i x4), some (ax_i (V 516 0))] [.ref (B + 16)] rfl ?_
  refine ax_gR (v := .ref (B + 24)) (pc' := 77) ⟨_, rfl⟩ fl_6_33 (az_b 16 rfl) rfl rfl ?_
  refine ax_mv 2 80 [some (.ref (B + 16)), some (ax_i x1), some (ax_i x2), some (ax_i x3), some (ax_i x4), some (ax_i (V 516 0))] [ax_i (-1), ax_i (V 516 0), .ref (B + 24)] rfl ?_
  obtain ⟨o9, h⟩ := h
  obtain ⟨V9, eV9⟩ : ∃ W9 : ax_V, W9 = ax_u V8 524 (V 516 0) (-1) := ⟨_, rfl⟩
  have h := h V9 eV9
  have hg9 : ax_g V9 := eV9 ▸ ax_u_g hg8 (by decide)
  refine ax_ist (n := 700) (pc' := 81) ⟨_, rfl⟩ az_ok (az_b 24 rfl) (by decide) o9 eV9 rfl ?_
  refine ax_mv 1 82 [some (.ref (B + 16)), some (ax_i x1), some (ax_i x2), some (ax_i x3), some (ax_i x4), some (ax_i (V 516 0))] [.ref (B + 16)] rfl ?_
  refine ax_gR (v := .ref (B + 27)) (pc' := 85) ⟨_, rfl⟩ fl_6_43 (az_b 16 rfl) rfl rfl ?_
  refine ax_mv 2 88 [some (.ref (B + 16)), some (ax_i x1), some (ax_i x2), some (ax_i x3), some (ax_i x4), some (ax_i (V 516 0))] [ax_i 0, ax_i (V 516 0), .ref (B + 27)] rfl ?_
  obtain ⟨o10, h⟩ := h
  obtain ⟨V10, eV10⟩ : ∃ W9 : ax_V, W9 = ax_u V9 527 (V 516 0) 0 := ⟨_, rfl⟩
  have h := h V10 eV10
  have hg10 : ax_g V10 := eV10 ▸ ax_u_g hg9 (by decide)
  refine ax_ist (n := 700) (pc' := 89) ⟨_, rfl⟩ az_ok (az_b 27 rfl) (by decide) o10 eV10 rfl ?_
  refine ax_mv 1 90 [some (.ref (B + 16)), some (ax_i x1), some (ax_i x2), some (ax_i x3), some (ax_i x4), some (ax_i (V 516 0))] [.ref (B + 16)] rfl ?_
  refine ax_gR (v := .ref (B + 31)) (pc' := 93) ⟨_, rfl⟩ fl_6_55 (az_b 16 rfl) rfl rfl ?_
  refine ax_mv 2 96 [some (.ref (B + 16)), some (ax_i x1), some (ax_i x2), some (ax_i x3), some (ax_i x4), some (ax_i (V 516 0))] [ax_i (-1), ax_i (V 516 0), .ref (B + 31)] rfl ?_
  obtain ⟨o11, h⟩ := h
  obtain ⟨V11, eV11⟩ : ∃ W9 : ax_V, W9 = ax_u V10 531 (V 516 0) (-1) := ⟨_, rfl⟩
  have h := h V11 eV11
  have hg11 : ax_g V11 := eV11 ▸ ax_u_g hg10 (by decide)
  refine ax_ist (n := 700) (pc' := 97) ⟨_, rfl⟩ az_ok (az_b 31 rfl) (by decide) o11 eV11 rfl ?_
  refine ax_mv 1 99 [some (.ref (B + 16)), some (ax_i x1), some (ax_i x2), some (ax_i x3), some (ax_i x4), some (ax_i (V 516 0))] [ax_i (V 516 0)] rfl ?_
  exact ax_iret ⟨_, rfl⟩ rfl rfl (hg _ _) hg11 h
abbrev k_Program_find_2 (B : Nat) (E : List (Nat × ax_S)) (d : Nat) (x1 : Int) (x2 : Int) (x3 : Int) (V : ax_V) (Φ : Int → ax_V → Prop) (Θ : ax_V → Prop) : Prop := ax_R (az_W B E) ax_t d m_Program_find 2 [some (.ref B), some (ax_i x1), some (ax_i x2), some (ax_i x3)] [] V (ax_Ir Φ) Θ
theorem r_Program_find_2 {B : Nat} {E : List (Nat × ax_S)} {d : Nat} {V : ax_V} {Φ : Int → ax_V → Prop} {Θ : ax_V → Prop} {x1 : Int} {x2 : Int} {x3 : Int} (hg : ax_g V) (hx1 : ax_rg x1) (hx2 : ax_rg x2) (hx3 : ax_rg x3) (h : ((x2 ≤ x3 → Φ (-1) V) ∧ (x3 < x2 → ((8 ≤ x3 → Φ (-1) V) ∧ (x3 < 8 → (0 ≤ x3 ∧ x3 < 8) ∧ ((V 501 x3 = x1 → Φ x3 V) ∧ (¬ V 501 x3 = x1 → k_Program_find_2 B E d x1 x2 (x3 + 1) V Φ Θ))))))) : k_Program_find_2 B E d x1 x2 x3 V Φ Θ := by
  refine ax_mv 2 4 [some (.ref B), some (ax_i x1), some (ax_i x2), some (ax_i x3)] [ax_i x2, ax_i x3] rfl ?_
  refine ax_if2 (p1 := 31) (p2 := 7) ⟨_, rfl⟩ (by decide) rfl hx3 hx2 (fun hc => ?_) (fun hc => ?_)
  · have h := h.1 hc
    refine ax_mv 1 32 [some (.ref B), some (ax_i x1), some (ax_i x2), some (ax_i x3)] [ax_i (-1)] rfl ?_
    exact ax_iret ⟨_, rfl⟩ rfl rfl (by decide) hg h
  · have h := h.2 (Int.not_le.mp hc)
    refine ax_mv 1 8 [some (.ref B), some (ax_i x1), some (ax_i x2), some (ax_i x3)] [ax_i x3] rfl ?_
    refine ax_bip (pc' := 10) ⟨_, rfl⟩ (by decide) rfl ?_
    refine ax_if2 (p1 := 31) (p2 := 13) ⟨_, rfl⟩ (by decide) rfl hx3 (by decide) (fun hc => ?_) (fun hc => ?_)
    · have h := h.1 hc
      refine ax_mv 1 32 [some (.ref B), some (ax_i x1), some (ax_i x2), some (ax_i x3)] [ax_i (-1)] rfl ?_
      exact ax_iret ⟨_, rfl⟩ rfl rfl (by decide) hg h
    · have h := h.2 (Int.not_le.mp hc)
      refine ax_mv 1 14 [some (.ref B), some (ax_i x1), some (ax_i x2), some (ax_i x3)] [.ref B] rfl ?_
      refine ax_gR (v := .ref (B + 1)) (pc' := 17) ⟨_, rfl⟩ fl_8_9 (az_b 0 rfl) rfl rfl ?_
      refine ax_mv 1 18 [some (.ref B), some (ax_i x1), some (ax_i x2), some (ax_i x3)] [ax_i x3, .ref (B + 1)] rfl ?_
      obtain ⟨o1, h⟩ := h
      refine ax_ild (n := 8) (pc' := 19) ⟨_, rfl⟩ (az_b 1 rfl) (by decide) o1 rfl ?_
      refine ax_mv 1 20 [some (.ref B), some (ax_i x1), some (ax_i x2), some (ax_i x3)] [ax_i x1, ax_i (V 501 x3)] rfl ?_
      refine ax_if2 (p1 := 25) (p2 := 23) ⟨_, rfl⟩ (by decide) rfl (hg _ _) hx1 (fun hc => ?_) (fun hc => ?_)
      · have h := h.2 hc
        refine ax_inc (x := x3) (pc' := 28) (L' := [some (.ref B), some (ax_i x1), some (ax_i x2), some (ax_i (x3 + 1))]) ⟨_, rfl⟩ rfl rfl rfl rfl ?_
        refine ax_mv 1 2 [some (.ref B), some (ax_i x1), some (ax_i x2), some (ax_i (x3 + 1))] [] rfl ?_
        exact h
      · have h := h.1 (Classical.not_not.mp hc)
        refine ax_mv 1 24 [some (.ref B), some (ax_i x1), some (ax_i x2), some (ax_i x3)] [ax_i x3] rfl ?_
        exact ax_iret ⟨_, rfl⟩ rfl rfl hx3 hg h
theorem r_Program_find {B : Nat} {E : List (Nat × ax_S)} {d : Nat} {V : ax_V} {Φ : Int → ax_V → Prop} {Θ : ax_V → Prop} {x1 : Int} {x2 : Int} (hg : ax_g V) (hx1 : ax_rg x1) (hx2 : ax_rg x2) (h : k_Program_find_2 B E d x1 x2 0 V Φ Θ) : ax_I (az_W B E) (d + 1) q_Program_find [.ref B, ax_i x1, ax_i x2] V Φ Θ := by
  refine ax_T.of (M := m_Program_find) rfl (Nat.le_of_ble_eq_true rfl) ?_
  refine ax_mv 0 0 [some (.ref B), some (ax_i x1), some (ax_i x2), none] [] rfl ?_
  refine ax_mv 1 1 [some (.ref B), some (ax_i x1), some (ax_i x2), none] [ax_i 0] rfl ?_
  refine ax_sti (i := 0) (k := 3) (n := 1) (pc' := 2) (L' := [some (.ref B), some (ax_i x1), some (ax_i x2), some (ax_i 0)]) ⟨_, rfl⟩ rfl rfl rfl (Nat.le_of_ble_eq_true rfl) rfl rfl ?_
  exact h
theorem r_Automata_addMove {B : Nat} {E : List (Nat × ax_S)} {d : Nat} {V : ax_V} {Φ : Int → ax_V → Prop} {Θ : ax_V → Prop} {x1 : Int} {x2 : Int} {x3 : Int} (hg : ax_g V) (hx1 : ax_rg x1) (hx2 : ax_rg x2) (hx3 : ax_rg x3) (h : ax_rg ((V 556 2) + 1) ∧ (∀ V1, V1 = ax_u V 556 2 ((V 556 2) + 1) → (0 ≤ x1 ∧ x1 < 350) ∧ (0 ≤ (V1 563 x1) + 1 ∧ (V1 563 x1) + 1 < 351) ∧ (∀ V2, V2 = ax_u V1 559 ((V1 563 x1) + 1) (V1 556 2) → (0 ≤ V 556 2 ∧ V 556 2 < 350) ∧ (∀ V3, V3 = ax_u V2 567 (V 556 2) x1 → (0 ≤ V 556 2 ∧ V 556 2 < 350) ∧ (x2 = 0 ∨ x2 = 1) ∧ (∀ V4, V4 = ax_u V3 568 (V 556 2) x2 → (0 ≤ V 556 2 ∧ V 556 2 < 350) ∧ (∀ V5, V5 = ax_u V4 570 (V 556 2) x3 → Φ (V 556 2) V5)))))) : ax_I (az_W B E) (d + 1) q_Automata_addMove [.ref (B + 56), ax_i x1, ax_i x2, ax_i x3] V Φ Θ := by
  refine ax_T.of (M := m_Automata_addMove) rfl (Nat.le_of_ble_eq_true rfl) ?_
  refine ax_mv 0 0 [some (.ref (B + 56)), some (ax_i x1), some (ax_i x2), some (ax_i x3), none] [] rfl ?_
  refine ax_mv 1 1 [some (.ref (B + 56)), some (ax_i x1), some (ax_i x2), some (ax_i x3), none] [.ref (B + 56)] rfl ?_
  refine ax_gI (kI := 2) (pc' := 4) ⟨_, rfl⟩ fl_0_71 (az_b 56 rfl) rfl rfl rfl ?_
  refine ax_sti (i := 0) (k := 4) (n := 2) (pc' := 6) (L' := [some (.ref (B + 56)), some (ax_i x1), some (ax_i x2), some (ax_i x3), some (ax_i (V 556 2))]) ⟨_, rfl⟩ rfl rfl rfl (Nat.le_of_ble_eq_true rfl) rfl rfl ?_
  refine ax_mv 2 8 [some (.ref (B + 56)), some (ax_i x1), some (ax_i x2), some (ax_i x3), some (ax_i (V 556 2))] [.ref (B + 56), .ref (B + 56)] rfl ?_
  refine ax_gI (kI := 2) (pc' := 11) ⟨_, rfl⟩ fl_0_71 (az_b 56 rfl) rfl rfl rfl ?_
  refine ax_mv 1 12 [some (.ref (B + 56)), some (ax_i x1), some (ax_i x2), some (ax_i x3), some (ax_i (V 556 2))] [ax_i 1, ax_i (V 556 2), .ref (B + 56)] rfl ?_
  refine ax_add (pc' := 13) ⟨_, rfl⟩ rfl ?_
  obtain ⟨o1, h⟩ := h
  obtain ⟨V1, eV1⟩ : ∃ W9 : ax_V, W9 = ax_u V 556 2 ((V 556 2) + 1) := ⟨_, rfl⟩
  have h := h V1 eV1
  have hg1 : ax_g V1 := eV1 ▸ ax_u_g hg o1
  refine ax_pI (kI := 2) (pc' := 16) ⟨_, rfl⟩ fl_0_71 az_ok (az_b 56 rfl) rfl rfl rfl rfl eV1 rfl ?_
  refine ax_mv 1 17 [some (.ref (B + 56)), some (ax_i x1), some (ax_i x2), some (ax_i x3), some (ax_i (V 556 2))] [.ref (B + 56)] rfl ?_
  refine ax_gR (v := .ref (B + 59)) (pc' := 20) ⟨_, rfl⟩ fl_0_18 (az_b 56 rfl) rfl rfl ?_
  refine ax_mv 1 21 [some (.ref (B + 56)), some (ax_i x1), some (ax_i x2), some (ax_i x3), some (ax_i (V 556 2))] [.ref (B + 56), .ref (B + 59)] rfl ?_
  refine ax_gR (v := .ref (B + 63)) (pc' := 24) ⟨_, rfl⟩ fl_0_31 (az_b 56 rfl) rfl rfl ?_
  refine ax_mv 1 25 [some (.ref (B + 56)), some (ax_i x1), some (ax_i x2), some (ax_i x3), some (ax_i (V 556 2))] [ax_i x1, .ref (B + 63), .ref (B + 59)] rfl ?_
  obtain ⟨o2, h⟩ := h
  refine ax_ild (n := 350) (pc' := 26) ⟨_, rfl⟩ (az_b 63 rfl) (by decide) o2 rfl ?_
  refine ax_mv 1 27 [some (.ref (B + 56)), some (ax_i x1), some (ax_i x2), some (ax_i x3), some (ax_i (V 556 2))] [ax_i 1, ax_i (V1 563 x1), .ref (B + 59)] rfl ?_
  refine ax_add (pc' := 28) ⟨_, rfl⟩ rfl ?_
  refine ax_mv 1 29 [some (.ref (B + 56)), some (ax_i x1), some (ax_i x2), some (ax_i x3), some (ax_i (V 556 2))] [.ref (B + 56), ax_i ((V1 563 x1) + 1), .ref (B + 59)] rfl ?_
  refine ax_gI (kI := 2) (pc' := 32) ⟨_, rfl⟩ fl_0_71 (az_b 56 rfl) rfl rfl rfl ?_
  obtain ⟨o3, h⟩ := h
  obtain ⟨V2, eV2⟩ : ∃ W9 : ax_V, W9 = ax_u V1 559 ((V1 563 x1) + 1) (V1 556 2) := ⟨_, rfl⟩
  have h := h V2 eV2
  have hg2 : ax_g V2 := eV2 ▸ ax_u_g hg1 (hg1 _ _)
  refine ax_ist (n := 351) (pc' := 33) ⟨_, rfl⟩ az_ok (az_b 59 rfl) (by decide) o3 eV2 rfl ?_
  refine ax_mv 1 34 [some (.ref (B + 56)), some (ax_i x1), some (ax_i x2), some (ax_i x3), some (ax_i (V 556 2))] [.ref (B + 56)] rfl ?_
  refine ax_gR (v := .ref (B + 67)) (pc' := 37) ⟨_, rfl⟩ fl_0_43 (az_b 56 rfl) rfl rfl ?_
  refine ax_mv 2 40 [some (.ref (B + 56)), some (ax_i x1), some (ax_i x2), some (ax_i x3), some (ax_i (V 556 2))] [ax_i x1, ax_i (V 556 2), .ref (B + 67)] rfl ?_
  obtain ⟨o4, h⟩ := h
  obtain ⟨V3, eV3⟩ : ∃ W9 : ax_V, W9 = ax_u V2 567 (V 556 2) x1 := ⟨_, rfl⟩
  have h := h V3 eV3
  have hg3 : ax_g V3 := eV3 ▸ ax_u_g hg2 hx1
  refine ax_ist (n := 350) (pc' := 41) ⟨_, rfl⟩ az_ok (az_b 67 rfl) (by decide) o4 eV3 rfl ?_
  refine ax_mv 1 42 [some (.ref (B + 56)), some (ax_i x1), some (ax_i x2), some (ax_i x3), some (ax_i (V 556 2))] [.ref (B + 56)] rfl ?_
  refine ax_gR (v := .ref (B + 68)) (pc' := 45) ⟨_, rfl⟩ fl_0_46 (az_b 56 rfl) rfl rfl ?_
  refine ax_mv 2 48 [some (.ref (B + 56)), some (ax_i x1), some (ax_i x2), some (ax_i x3), some (ax_i (V 556 2))] [ax_i x2, ax_i (V 556 2), .ref (B + 68)] rfl ?_
  obtain ⟨o5, o6, h⟩ := h
  obtain ⟨V4, eV4⟩ : ∃ W9 : ax_V, W9 = ax_u V3 568 (V 556 2) x2 := ⟨_, rfl⟩
  have h := h V4 eV4
  have hg4 : ax_g V4 := eV4 ▸ ax_u_g hg3 hx2
  refine ax_bst (n := 350) (pc' := 49) ⟨_, rfl⟩ az_ok (az_b 68 rfl) (by decide) o5 o6 eV4 rfl ?_
  refine ax_mv 1 50 [some (.ref (B + 56)), some (ax_i x1), some (ax_i x2), some (ax_i x3), some (ax_i (V 556 2))] [.ref (B + 56)] rfl ?_
  refine ax_gR (v := .ref (B + 70)) (pc' := 53) ⟨_, rfl⟩ fl_0_52 (az_b 56 rfl) rfl rfl ?_
  refine ax_mv 2 56 [some (.ref (B + 56)), some (ax_i x1), some (ax_i x2), some (ax_i x3), some (ax_i (V 556 2))] [ax_i x3, ax_i (V 556 2), .ref (B + 70)] rfl ?_
  obtain ⟨o7, h⟩ := h
  obtain ⟨V5, eV5⟩ : ∃ W9 : ax_V, W9 = ax_u V4 570 (V 556 2) x3 := ⟨_, rfl⟩
  have h := h V5 eV5
  have hg5 : ax_g V5 := eV5 ▸ ax_u_g hg4 hx3
  refine ax_ist (n := 350) (pc' := 57) ⟨_, rfl⟩ az_ok (az_b 70 rfl) (by decide) o7 eV5 rfl ?_
  refine ax_mv 1 59 [some (.ref (B + 56)), some (ax_i x1), some (ax_i x2), some (ax_i x3), some (ax_i (V 556 2))] [ax_i (V 556 2)] rfl ?_
  exact ax_iret ⟨_, rfl⟩ rfl rfl (hg _ _) hg5 h
theorem r_Program_endNode {B : Nat} {E : List (Nat × ax_S)} {d : Nat} {V : ax_V} {Φ : ax_V → Prop} {Θ : ax_V → Prop} {x1 : Int} (hg : ax_g V) (hx1 : ax_rg x1) (h : (0 ≤ x1 + 1 ∧ x1 + 1 < 9) ∧ (∀ V1, V1 = ax_u V 508 (x1 + 1) (V 516 0) → (0 ≤ x1 + 1 ∧ x1 + 1 < 9) ∧ (∀ V2, V2 = ax_u V1 509 (x1 + 1) (V1 547 0) → (0 ≤ x1 + 1 ∧ x1 + 1 < 9) ∧ (∀ V3, V3 = ax_u V2 510 (x1 + 1) (V2 556 0) → ax_rg (x1 + 1) ∧ (∀ V4, V4 = ax_u V3 500 0 (x1 + 1) → Φ V4))))) : ax_N (az_W B E) (d + 1) q_Program_endNode [.ref B, ax_i x1] V Φ Θ := by
  refine ax_T.of (M := m_Program_endNode) rfl (Nat.le_of_ble_eq_true rfl) ?_
  refine ax_mv 0 0 [some (.ref B), some (ax_i x1)] [] rfl ?_
  refine ax_mv 1 1 [some (.ref B), some (ax_i x1)] [.ref B] rfl ?_
  refine ax_gR (v := .ref (B + 8)) (pc' := 4) ⟨_, rfl⟩ fl_8_33 (az_b 0 rfl) rfl rfl ?_
  refine ax_mv 2 6 [some (.ref B), some (ax_i x1)] [ax_i 1, ax_i x1, .ref (B + 8)] rfl ?_
  refine ax_add (pc' := 7) ⟨_, rfl⟩ rfl ?_
  refine ax_mv 1 8 [some (.ref B), some (ax_i x1)] [.ref B, ax_i (x1 + 1), .ref (B + 8)] rfl ?_
  refine ax_gR (v := .ref (B + 16)) (pc' := 11) ⟨_, rfl⟩ fl_8_60 (az_b 0 rfl) rfl rfl ?_
  refine ax_gI (kI := 0) (pc' := 14) ⟨_, rfl⟩ fl_8_95 (az_b 16 rfl) rfl rfl rfl ?_
  obtain ⟨o1, h⟩ := h
  obtain ⟨V1, eV1⟩ : ∃ W9 : ax_V, W9 = ax_u V 508 (x1 + 1) (V 516 0) := ⟨_, rfl⟩
  have h := h V1 eV1
  have hg1 : ax_g V1 := eV1 ▸ ax_u_g hg (hg _ _)
  refine ax_ist (n := 9) (pc' := 15) ⟨_, rfl⟩ az_ok (az_b 8 rfl) (by decide) o1 eV1 rfl ?_
  refine ax_mv 1 16 [some (.ref B), some (ax_i x1)] [.ref B] rfl ?_
  refine ax_gR (v := .ref (B + 9)) (pc' := 19) ⟨_, rfl⟩ fl_8_36 (az_b 0 rfl) rfl rfl ?_
  refine ax_mv 2 21 [some (.ref B), some (ax_i x1)] [ax_i 1, ax_i x1, .ref (B + 9)] rfl ?_
  refine ax_add (pc' := 22) ⟨_, rfl⟩ rfl ?_
  refine ax_mv 1 23 [some (.ref B), some (ax_i x1)] [.ref B, ax_i (x1 + 1), .ref (B + 9)] rfl ?_
  refine ax_gR (v := .ref (B + 47)) (pc' := 26) ⟨_, rfl⟩ fl_8_74 (az_b 0 rfl) rfl rfl ?_
  refine ax_gI (kI := 0) (pc' := 29) ⟨_, rfl⟩ fl_8_98 (az_b 47 rfl) rfl rfl rfl ?_
  obtain ⟨o2, h⟩ := h
  obtain ⟨V2, eV2⟩ : ∃ W9 : ax_V, W9 = ax_u V1 509 (x1 + 1) (V1 547 0) := ⟨_, rfl⟩
  have h := h V2 eV2
  have hg2 : ax_g V2 := eV2 ▸ ax_u_g hg1 (hg1 _ _)
  refine ax_ist (n := 9) (pc' := 30) ⟨_, rfl⟩ az_ok (az_b 9 rfl) (by decide) o2 eV2 rfl ?_
  refine ax_mv 1 31 [some (.ref B), some (ax_i x1)] [.ref B] rfl ?_
  refine ax_gR (v := .ref (B + 10)) (pc' := 34) ⟨_, rfl⟩ fl_8_39 (az_b 0 rfl) rfl rfl ?_
  refine ax_mv 2 36 [some (.ref B), some (ax_i x1)] [ax_i 1, ax_i x1, .ref (B + 10)] rfl ?_
  refine ax_add (pc' := 37) ⟨_, rfl⟩ rfl ?_
  refine ax_mv 1 38 [some (.ref B), some (ax_i x1)] [.ref B, ax_i (x1 + 1), .ref (B + 10)] rfl ?_
  refine ax_gR (v := .ref (B + 56)) (pc' := 41) ⟨_, rfl⟩ fl_8_81 (az_b 0 rfl) rfl rfl ?_
  refine ax_gI (kI := 0) (pc' := 44) ⟨_, rfl⟩ fl_8_102 (az_b 56 rfl) rfl rfl rfl ?_
  obtain ⟨o3, h⟩ := h
  obtain ⟨V3, eV3⟩ : ∃ W9 : ax_V, W9 = ax_u V2 510 (x1 + 1) (V2 556 0) := ⟨_, rfl⟩
  have h := h V3 eV3
  have hg3 : ax_g V3 := eV3 ▸ ax_u_g hg2 (hg2 _ _)
  refine ax_ist (n := 9) (pc' := 45) ⟨_, rfl⟩ az_ok (az_b 10 rfl) (by decide) o3 eV3 rfl ?_
  refine ax_mv 3 48 [some (.ref B), some (ax_i x1)] [ax_i 1, ax_i x1, .ref B] rfl ?_
  refine ax_add (pc' := 49) ⟨_, rfl⟩ rfl ?_
  obtain ⟨o4, h⟩ := h
  obtain ⟨V4, eV4⟩ : ∃ W9 : ax_V, W9 = ax_u V3 500 0 (x1 + 1) := ⟨_, rfl⟩
  have h := h V4 eV4
  have hg4 : ax_g V4 := eV4 ▸ ax_u_g hg3 o4
  refine ax_pI (kI := 0) (pc' := 52) ⟨_, rfl⟩ fl_8_85 az_ok (az_b 0 rfl) rfl rfl rfl rfl eV4 rfl ?_
  exact ax_nret ⟨_, rfl⟩ rfl hg4 h
theorem r_Letters_bit {B : Nat} {E : List (Nat × ax_S)} {d : Nat} {V : ax_V} {Φ : Int → ax_V → Prop} {Θ : ax_V → Prop} {x0 : Int} (hg : ax_g V) (hx0 : ax_rg x0) (h : Φ (ax_shl 1 (ax_rem x0 26)) V) : ax_I (az_W B E) (d + 1) q_Letters_bit [ax_i x0] V Φ Θ := by
  refine ax_T.of (M := m_Letters_bit) rfl (Nat.le_of_ble_eq_true rfl) ?_
  refine ax_mv 0 0 [some (ax_i x0)] [] rfl ?_
  refine ax_mv 2 2 [some (ax_i x0)] [ax_i x0, ax_i 1] rfl ?_
  refine ax_bip (pc' := 4) ⟨_, rfl⟩ (by decide) rfl ?_
  refine ax_rrem (pc' := 5) ⟨_, rfl⟩ (by decide) (by decide) rfl ?_
  refine ax_rshl (pc' := 6) ⟨_, rfl⟩ rfl ?_
  exact ax_iret ⟨_, rfl⟩ rfl rfl (ax_rg_of _) hg h
theorem r_Parts_ownLetter {B : Nat} {E : List (Nat × ax_S)} {d : Nat} {V : ax_V} {Φ : Int → ax_V → Prop} {Θ : ax_V → Prop} {x1 : Int} (hg : ax_g V) (hx1 : ax_rg x1) (h : (0 ≤ x1 ∧ x1 < 700) ∧ ((V 517 x1 = 2 → (0 ≤ x1 ∧ x1 < 700) ∧ Φ (V 520 x1) V) ∧ (V 517 x1 = 20 → (0 ≤ x1 ∧ x1 < 700) ∧ Φ (ax_shr (V 520 x1) 1) V) ∧ (V 517 x1 = 21 → (0 ≤ x1 ∧ x1 < 700) ∧ Φ (V 520 x1) V) ∧ (V 517 x1 = 22 → (0 ≤ x1 ∧ x1 < 700) ∧ Φ (V 523 x1) V) ∧ (¬ V 517 x1 = 2 → ¬ V 517 x1 = 20 → ¬ V 517 x1 = 21 → ¬ V 517 x1 = 22 → Φ (-1) V))) : ax_I (az_W B E) (d + 1) q_Parts_ownLetter [.ref (B + 16), ax_i x1] V Φ Θ := by
  refine ax_T.of (M := m_Parts_ownLetter) rfl (Nat.le_of_ble_eq_true rfl) ?_
  refine ax_mv 0 0 [some (.ref (B + 16)), some (ax_i x1)] [] rfl ?_
  refine ax_mv 1 1 [some (.ref (B + 16)), some (ax_i x1)] [.ref (B + 16)] rfl ?_
  refine ax_gR (v := .ref (B + 17)) (pc' := 4) ⟨_, rfl⟩ fl_6_9 (az_b 16 rfl) rfl rfl ?_
  refine ax_mv 1 5 [some (.ref (B + 16)), some (ax_i x1)] [ax_i x1, .ref (B + 17)] rfl ?_
  obtain ⟨o1, h⟩ := h
  refine ax_ild (n := 700) (pc' := 6) ⟨_, rfl⟩ (az_b 17 rfl) (by decide) o1 rfl ?_
  have t0 : (V 517 x1 = 2) → ax_R (az_W B E) ax_t d m_Parts_ownLetter 48 [some (.ref (B + 16)), some (ax_i x1)] [] V (ax_Ir Φ) Θ := fun hk => by
    have h := h.1 hk
    refine ax_mv 1 49 [some (.ref (B + 16)), some (ax_i x1)] [.ref (B + 16)] rfl ?_
    refine ax_gR (v := .ref (B + 20)) (pc' := 52) ⟨_, rfl⟩ fl_6_21 (az_b 16 rfl) rfl rfl ?_
    refine ax_mv 1 53 [some (.ref (B + 16)), some (ax_i x1)] [ax_i x1, .ref (B + 20)] rfl ?_
    obtain ⟨o2, h⟩ := h
    refine ax_ild (n := 700) (pc' := 54) ⟨_, rfl⟩ (az_b 20 rfl) (by decide) o2 rfl ?_
    exact ax_iret ⟨_, rfl⟩ rfl rfl (hg _ _) hg h
  have t1 : (V 517 x1 = 20) → ax_R (az_W B E) ax_t d m_Parts_ownLetter 62 [some (.ref (B + 16)), some (ax_i x1)] [] V (ax_Ir Φ) Θ := fun hk => by
    have h := h.2.1 hk
    refine ax_mv 1 63 [some (.ref (B + 16)), some (ax_i x1)] [.ref (B + 16)] rfl ?_
    refine ax_gR (v := .ref (B + 20)) (pc' := 66) ⟨_, rfl⟩ fl_6_21 (az_b 16 rfl) rfl rfl ?_
    refine ax_mv 1 67 [some (.ref (B + 16)), some (ax_i x1)] [ax_i x1, .ref (B + 20)] rfl ?_
    obtain ⟨o3, h⟩ := h
    refine ax_ild (n := 700) (pc' := 68) ⟨_, rfl⟩ (az_b 20 rfl) (by decide) o3 rfl ?_
    refine ax_mv 1 69 [some (.ref (B + 16)), some (ax_i x1)] [ax_i 1, ax_i (V 520 x1)] rfl ?_
    refine ax_rshr (pc' := 70) ⟨_, rfl⟩ rfl ?_
    exact ax_iret ⟨_, rfl⟩ rfl rfl (ax_rg_of _) hg h
  have t2 : (V 517 x1 = 21) → ax_R (az_W B E) ax_t d m_Parts_ownLetter 55 [some (.ref (B + 16)), some (ax_i x1)] [] V (ax_Ir Φ) Θ := fun hk => by
    have h := h.2.2.1 hk
    refine ax_mv 1 56 [some (.ref (B + 16)), some (ax_i x1)] [.ref (B + 16)] rfl ?_
    refine ax_gR (v := .ref (B + 20)) (pc' := 59) ⟨_, rfl⟩ fl_6_21 (az_b 16 rfl) rfl rfl ?_
    refine ax_mv 1 60 [some (.ref (B + 16)), some (ax_i x1)] [ax_i x1, .ref (B + 20)] rfl ?_
    obtain ⟨o4, h⟩ := h
    refine ax_ild (n := 700) (pc' := 61) ⟨_, rfl⟩ (az_b 20 rfl) (by decide) o4 rfl ?_
    exact ax_iret ⟨_, rfl⟩ rfl rfl (hg _ _) hg h
  have t3 : (V 517 x1 = 22) → ax_R (az_W B E) ax_t d m_Parts_ownLetter 71 [some (.ref (B + 16)), some (ax_i x1)] [] V (ax_Ir Φ) Θ := fun hk => by
    have h := h.2.2.2.1 hk
    refine ax_mv 1 72 [some (.ref (B + 16)), some (ax_i x1)] [.ref (B + 16)] rfl ?_
    refine ax_gR (v := .ref (B + 23)) (pc' := 75) ⟨_, rfl⟩ fl_6_30 (az_b 16 rfl) rfl rfl ?_
    refine ax_mv 1 76 [some (.ref (B + 16)), some (ax_i x1)] [ax_i x1, .ref (B + 23)] rfl ?_
    obtain ⟨o5, h⟩ := h
    refine ax_ild (n := 700) (pc' := 77) ⟨_, rfl⟩ (az_b 23 rfl) (by decide) o5 rfl ?_
    exact ax_iret ⟨_, rfl⟩ rfl rfl (hg _ _) hg h
  have tD : ¬ V 517 x1 = 2 → ¬ V 517 x1 = 20 → ¬ V 517 x1 = 21 → ¬ V 517 x1 = 22 → ax_R (az_W B E) ax_t d m_Parts_ownLetter 78 [some (.ref (B + 16)), some (ax_i x1)] [] V (ax_Ir Φ) Θ := fun n0 n1 n2 n3 => by
    have h := h.2.2.2.2 n0 n1 n2 n3
    refine ax_mv 1 79 [some (.ref (B + 16)), some (ax_i x1)] [ax_i (-1)] rfl ?_
    exact ax_iret ⟨_, rfl⟩ rfl rfl (by decide) hg h
  by_cases e2 : V 517 x1 = 2
  · exact ax_ls (off := 42) (p1 := 48) ⟨_, rfl⟩ (hg _ _) (by decide) (by rw [e2]; rfl) (by decide) (t0 (e2))
  by_cases e20 : V 517 x1 = 20
  · exact ax_ls (off := 56) (p1 := 62) ⟨_, rfl⟩ (hg _ _) (by decide) (by rw [e20]; rfl) (by decide) (t1 (e20))
  by_cases e21 : V 517 x1 = 21
  · exact ax_ls (off := 49) (p1 := 55) ⟨_, rfl⟩ (hg _ _) (by decide) (by rw [e21]; rfl) (by decide) (t2 (e21))
  by_cases e22 : V 517 x1 = 22
  · exact ax_ls (off := 65) (p1 := 71) ⟨_, rfl⟩ (hg _ _) (by decide) (by rw [e22]; rfl) (by decide) (t3 (e22))
  exact ax_ls (off := 72) (p1 := 78) ⟨_, rfl⟩ (hg _ _) (by decide) (by simp [Op.lookupswitch.offset, Ne.symm e2, Ne.symm e20, Ne.symm e21, Ne.symm e22]) (by decide) (tD e2 e20 e21 e22)
