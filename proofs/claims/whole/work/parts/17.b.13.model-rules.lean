/-! RULES of the model's methods: a method each, and each loop of it. PRINTED by wip/gen/rules.py -/
abbrev k_Model_canBeFed_22 (d : Nat) (x1 : Int) (x2 : Int) (V : ax_V) (Φ : Int → ax_V → Prop) (Θ : ax_V → Prop) : Prop := ax_R ay_lay ax_t d m_Model_canBeFed 22 [some (.ref 222), some (ax_i x1), some (ax_i x2)] [] V (ax_Ir Φ) Θ
theorem r_Model_canBeFed_22 {d : Nat} {V : ax_V} {Φ : Int → ax_V → Prop} {Θ : ax_V → Prop} {x1 : Int} {x2 : Int} (hg : ax_g V) (hx1 : ax_rg x1) (hx2 : ax_rg x2) (h : (0 ≤ x1 ∧ x1 < 9) ∧ ((V 227 x1 ≤ x2 → Φ 1 V) ∧ (x2 < V 227 x1 → (0 ≤ (26 * x1) + x2 ∧ (26 * x1) + x2 < 240) ∧ (0 ≤ (26 * x1) + (V 230 ((26 * x1) + x2)) ∧ (26 * x1) + (V 230 ((26 * x1) + x2)) < 240) ∧ ((V 233 ((26 * x1) + (V 230 ((26 * x1) + x2))) = 0 → Φ 0 V) ∧ (¬ V 233 ((26 * x1) + (V 230 ((26 * x1) + x2))) = 0 → k_Model_canBeFed_22 d x1 (x2 + 1) V Φ Θ))))) : k_Model_canBeFed_22 d x1 x2 V Φ Θ := by
  refine ax_mv 2 24 [some (.ref 222), some (ax_i x1), some (ax_i x2)] [.ref 222, ax_i x2] rfl ?_
  refine ax_gR (v := .ref 227) (pc' := 27) ⟨_, rfl⟩ fl_12_22 ay_222 rfl rfl ?_
  refine ax_mv 1 28 [some (.ref 222), some (ax_i x1), some (ax_i x2)] [ax_i x1, .ref 227, ax_i x2] rfl ?_
  obtain ⟨o1, h⟩ := h
  refine ax_ild (n := 9) (pc' := 29) ⟨_, rfl⟩ ay_227 (by decide) o1 rfl ?_
  refine ax_if2 (p1 := 64) (p2 := 32) ⟨_, rfl⟩ (by decide) rfl hx2 (hg _ _) (fun hc => ?_) (fun hc => ?_)
  · have h := h.1 hc
    refine ax_mv 1 65 [some (.ref 222), some (ax_i x1), some (ax_i x2)] [ax_i 1] rfl ?_
    exact ax_iret ⟨_, rfl⟩ rfl (ax_nbv (by decide)) (by decide) hg h
  · have h := h.2 (Int.not_le.mp hc)
    refine ax_mv 1 33 [some (.ref 222), some (ax_i x1), some (ax_i x2)] [.ref 222] rfl ?_
    refine ax_gR (v := .ref 233) (pc' := 36) ⟨_, rfl⟩ fl_12_40 ay_222 rfl rfl ?_
    refine ax_bip (pc' := 38) ⟨_, rfl⟩ (by decide) rfl ?_
    refine ax_mv 1 39 [some (.ref 222), some (ax_i x1), some (ax_i x2)] [ax_i x1, ax_i 26, .ref 233] rfl ?_
    refine ax_mul (pc' := 40) ⟨_, rfl⟩ rfl ?_
    refine ax_mv 1 41 [some (.ref 222), some (ax_i x1), some (ax_i x2)] [.ref 222, ax_i (26 * x1), .ref 233] rfl ?_
    refine ax_gR (v := .ref 230) (pc' := 44) ⟨_, rfl⟩ fl_12_31 ay_222 rfl rfl ?_
    refine ax_bip (pc' := 46) ⟨_, rfl⟩ (by decide) rfl ?_
    refine ax_mv 1 47 [some (.ref 222), some (ax_i x1), some (ax_i x2)] [ax_i x1, ax_i 26, .ref 230, ax_i (26 * x1), .ref 233] rfl ?_
    refine ax_mul (pc' := 48) ⟨_, rfl⟩ rfl ?_
    refine ax_mv 1 49 [some (.ref 222), some (ax_i x1), some (ax_i x2)] [ax_i x2, ax_i (26 * x1), .ref 230, ax_i (26 * x1), .ref 233] rfl ?_
    refine ax_add (pc' := 50) ⟨_, rfl⟩ rfl ?_
    obtain ⟨o2, h⟩ := h
    refine ax_ild (n := 240) (pc' := 51) ⟨_, rfl⟩ ay_230 (by decide) o2 rfl ?_
    refine ax_add (pc' := 52) ⟨_, rfl⟩ rfl ?_
    obtain ⟨o3, h⟩ := h
    refine ax_ild (n := 240) (pc' := 53) ⟨_, rfl⟩ ay_233 (by decide) o3 rfl ?_
    refine ax_if (p1 := 58) (p2 := 56) ⟨_, rfl⟩ (by decide) rfl (hg _ _) (fun hc => ?_) (fun hc => ?_)
    · have h := h.2 hc
      refine ax_inc (x := x2) (pc' := 61) (L' := [some (.ref 222), some (ax_i x1), some (ax_i (x2 + 1))]) ⟨_, rfl⟩ rfl rfl rfl rfl ?_
      refine ax_mv 1 22 [some (.ref 222), some (ax_i x1), some (ax_i (x2 + 1))] [] rfl ?_
      exact h
    · have h := h.1 (Classical.not_not.mp hc)
      refine ax_mv 1 57 [some (.ref 222), some (ax_i x1), some (ax_i x2)] [ax_i 0] rfl ?_
      exact ax_iret ⟨_, rfl⟩ rfl (ax_nbv (by decide)) (by decide) hg h
theorem r_Model_canBeFed {d : Nat} {V : ax_V} {Φ : Int → ax_V → Prop} {Θ : ax_V → Prop} {x1 : Int} (hg : ax_g V) (hx1 : ax_rg x1) (h : ax_I ay_lay d q_Model_canBe [.ref 222, ax_i x1] V (fun r1 V1 => ((r1 = 0 → Φ 0 V1) ∧ (¬ r1 = 0 → (0 ≤ x1 ∧ x1 < 9) ∧ ((V1 227 x1 ≤ 4 → k_Model_canBeFed_22 d x1 0 V1 Φ Θ) ∧ (4 < V1 227 x1 → Φ 0 V1))))) Θ) : ax_I ay_lay (d + 1) q_Model_canBeFed [.ref 222, ax_i x1] V Φ Θ := by
  refine ax_T.of (M := m_Model_canBeFed) rfl (Nat.le_of_ble_eq_true rfl) ?_
  refine ax_mv 0 0 [some (.ref 222), some (ax_i x1), none] [] rfl ?_
  refine ax_mv 2 2 [some (.ref 222), some (ax_i x1), none] [ax_i x1, .ref 222] rfl ?_
  refine ax_callI (pc' := 5) ⟨_, rfl⟩ ml_12_679 (rest := []) rfl (fun ss hs => ⟨_, _, ay_222 ss hs⟩) (Nat.le_of_ble_eq_true rfl) rfl rfl h (fun r1 V1 hg1 hr1 h => ?_)
  refine ax_if (p1 := 18) (p2 := 8) ⟨_, rfl⟩ (by decide) rfl hr1 (fun hc => ?_) (fun hc => ?_)
  · have h := h.1 hc
    refine ax_mv 1 19 [some (.ref 222), some (ax_i x1), none] [ax_i 0] rfl ?_
    exact ax_iret ⟨_, rfl⟩ rfl (ax_nbv (by decide)) (by decide) hg1 h
  · have h := h.2 hc
    refine ax_mv 1 9 [some (.ref 222), some (ax_i x1), none] [.ref 222] rfl ?_
    refine ax_gR (v := .ref 227) (pc' := 12) ⟨_, rfl⟩ fl_12_22 ay_222 rfl rfl ?_
    refine ax_mv 1 13 [some (.ref 222), some (ax_i x1), none] [ax_i x1, .ref 227] rfl ?_
    obtain ⟨o4, h⟩ := h
    refine ax_ild (n := 9) (pc' := 14) ⟨_, rfl⟩ ay_227 (by decide) o4 rfl ?_
    refine ax_mv 1 15 [some (.ref 222), some (ax_i x1), none] [ax_i 4, ax_i (V1 227 x1)] rfl ?_
    refine ax_if2 (p1 := 20) (p2 := 18) ⟨_, rfl⟩ (by decide) rfl (hg1 _ _) (by decide) (fun hc => ?_) (fun hc => ?_)
    · have h := h.1 hc
      refine ax_mv 1 21 [some (.ref 222), some (ax_i x1), none] [ax_i 0] rfl ?_
      refine ax_sti (i := 0) (k := 2) (n := 1) (pc' := 22) (L' := [some (.ref 222), some (ax_i x1), some (ax_i 0)]) ⟨_, rfl⟩ rfl rfl rfl (Nat.le_of_ble_eq_true rfl) rfl rfl ?_
      exact h
    · have h := h.2 (Int.not_le.mp hc)
      refine ax_mv 1 19 [some (.ref 222), some (ax_i x1), none] [ax_i 0] rfl ?_
      exact ax_iret ⟨_, rfl⟩ rfl (ax_nbv (by decide)) (by decide) hg1 h
abbrev k_Model_search_27 (d : Nat) (x1 : Int) (x2 : Int) (x3 : Int) (x4 : Int) (y5 : Option Value) (y6 : Option Value) (s0 : Int) (s1 : Int) (V : ax_V) (Φ : Int → ax_V → Prop) (Θ : ax_V → Prop) : Prop := ax_R ay_lay ax_t d m_Model_search 27 [some (.ref 222), some (ax_i x1), some (ax_i x2), some (ax_i x3), some (ax_i x4), y5, y6] [ax_i s0, ax_i s1, .ref 222] V (ax_Ir Φ) Θ
abbrev k_Model_search_72 (d : Nat) (x1 : Int) (x2 : Int) (x3 : Int) (x4 : Int) (x5 : Int) (y6 : Option Value) (V : ax_V) (Φ : Int → ax_V → Prop) (Θ : ax_V → Prop) : Prop := ax_R ay_lay ax_t d m_Model_search 72 [some (.ref 222), some (ax_i x1), some (ax_i x2), some (ax_i x3), some (ax_i x4), some (ax_i x5), y6] [] V (ax_Ir Φ) Θ
abbrev k_Model_search_84 (d : Nat) (x1 : Int) (x2 : Int) (x3 : Int) (x4 : Int) (x5 : Int) (x6 : Int) (V : ax_V) (Φ : Int → ax_V → Prop) (Θ : ax_V → Prop) : Prop := ax_R ay_lay ax_t d m_Model_search 84 [some (.ref 222), some (ax_i x1), some (ax_i x2), some (ax_i x3), some (ax_i x4), some (ax_i x5), some (ax_i x6)] [] V (ax_Ir Φ) Θ
set_option maxRecDepth 20000 in
theorem r_Model_search_27 {d : Nat} {V : ax_V} {Φ : Int → ax_V → Prop} {Θ : ax_V → Prop} {x1 : Int} {x2 : Int} {x3 : Int} {x4 : Int} {y5 : Option Value} {y6 : Option Value} {s0 : Int} {s1 : Int} (hg : ax_g V) (hx1 : ax_rg x1) (hx2 : ax_rg x2) (hx3 : ax_rg x3) (hx4 : ax_rg x4) (hy5 : ax_y y5) (hy6 : ax_y y6) (hs0 : ax_rg s0) (hs1 : ax_rg s1) (h : ax_rg (s1 + s0) ∧ (∀ V1, V1 = ax_u V 222 116 (s1 + s0) → (∀ V2, V2 = ax_u V1 222 115 0 → (∀ V3, V3 = ax_u V2 222 120 0 → ax_N ay_lay d q_Model_begin [.ref 222, ax_i x1, ax_i 0] V3 (fun V4 => ((x3 = -1 → ax_N ay_lay d q_Model_keep [.ref 222, ax_i (-1), ax_i 0] V4 (fun V5 => k_Model_search_72 d x1 x2 x3 x4 0 y6 V5 Φ Θ) Θ) ∧ (¬ x3 = -1 → (0 ≤ x1 ∧ x1 < 9) ∧ ax_N ay_lay d q_Model_begin [.ref 222, ax_i x3, ax_i (V4 288 x1)] V4 (fun V6 => ax_N ay_lay d q_Model_keep [.ref 222, ax_i (-1), ax_i 0] V6 (fun V7 => k_Model_search_72 d x1 x2 x3 x4 0 y6 V7 Φ Θ) Θ) Θ))) Θ)))) : k_Model_search_27 d x1 x2 x3 x4 y5 y6 s0 s1 V Φ Θ := by
  refine ax_add (pc' := 28) ⟨_, rfl⟩ rfl ?_
  obtain ⟨o1, h⟩ := h
  obtain ⟨V1, eV1⟩ : ∃ W9 : ax_V, W9 = ax_u V 222 116 (s1 + s0) := ⟨_, rfl⟩
  have h := h V1 eV1
  have hg1 : ax_g V1 := eV1 ▸ ax_u_g hg o1
  refine ax_pI (kI := 116) (pc' := 31) ⟨_, rfl⟩ fl_12_685 ay_ok ay_222 rfl rfl rfl rfl eV1 rfl ?_
  refine ax_mv 2 33 [some (.ref 222), some (ax_i x1), some (ax_i x2), some (ax_i x3), some (ax_i x4), y5, y6] [ax_i 0, .ref 222] rfl ?_
  obtain ⟨V2, eV2⟩ : ∃ W9 : ax_V, W9 = ax_u V1 222 115 0 := ⟨_, rfl⟩
  have h := h V2 eV2
  have hg2 : ax_g V2 := eV2 ▸ ax_u_g hg1 (by decide)
  refine ax_pI (kI := 115) (pc' := 36) ⟨_, rfl⟩ fl_12_688 ay_ok ay_222 rfl rfl rfl rfl eV2 rfl ?_
  refine ax_mv 2 38 [some (.ref 222), some (ax_i x1), some (ax_i x2), some (ax_i x3), some (ax_i x4), y5, y6] [ax_i 0, .ref 222] rfl ?_
  obtain ⟨V3, eV3⟩ : ∃ W9 : ax_V, W9 = ax_u V2 222 120 0 := ⟨_, rfl⟩
  have h := h V3 eV3
  have hg3 : ax_g V3 := eV3 ▸ ax_u_g hg2 (by decide)
  refine ax_pI (kI := 120) (pc' := 41) ⟨_, rfl⟩ fl_12_697 ay_ok ay_222 rfl rfl rfl rfl eV3 rfl ?_
  refine ax_mv 3 44 [some (.ref 222), some (ax_i x1), some (ax_i x2), some (ax_i x3), some (ax_i x4), y5, y6] [ax_i 0, ax_i x1, .ref 222] rfl ?_
  refine ax_callN (pc' := 47) ⟨_, rfl⟩ ml_12_703 (rest := []) rfl (fun ss hs => ⟨_, _, ay_222 ss hs⟩) (Nat.le_of_ble_eq_true rfl) rfl rfl h (fun V4 hg4 h => ?_)
  refine ax_mv 2 49 [some (.ref 222), some (ax_i x1), some (ax_i x2), some (ax_i x3), some (ax_i x4), y5, y6] [ax_i (-1), ax_i x3] rfl ?_
  refine ax_if2 (p1 := 63) (p2 := 52) ⟨_, rfl⟩ (by decide) rfl hx3 (by decide) (fun hc => ?_) (fun hc => ?_)
  · have h := h.1 hc
    refine ax_mv 3 66 [some (.ref 222), some (ax_i x1), some (ax_i x2), some (ax_i x3), some (ax_i x4), y5, y6] [ax_i 0, ax_i (-1), .ref 222] rfl ?_
    refine ax_callN (pc' := 69) ⟨_, rfl⟩ ml_12_705 (rest := []) rfl (fun ss hs => ⟨_, _, ay_222 ss hs⟩) (Nat.le_of_ble_eq_true rfl) rfl rfl h (fun V5 hg5 h => ?_)
    refine ax_mv 1 70 [some (.ref 222), some (ax_i x1), some (ax_i x2), some (ax_i x3), some (ax_i x4), y5, y6] [ax_i 0] rfl ?_
    refine ax_sti (i := 0) (k := 5) (n := 2) (pc' := 72) (L' := [some (.ref 222), some (ax_i x1), some (ax_i x2), some (ax_i x3), some (ax_i x4), some (ax_i 0), y6]) ⟨_, rfl⟩ rfl rfl rfl (Nat.le_of_ble_eq_true rfl) rfl rfl ?_
    exact h
  · have h := h.2 hc
    refine ax_mv 3 55 [some (.ref 222), some (ax_i x1), some (ax_i x2), some (ax_i x3), some (ax_i x4), y5, y6] [.ref 222, ax_i x3, .ref 222] rfl ?_
    refine ax_gR (v := .ref 288) (pc' := 58) ⟨_, rfl⟩ fl_12_206 ay_222 rfl rfl ?_
    refine ax_mv 1 59 [some (.ref 222), some (ax_i x1), some (ax_i x2), some (ax_i x3), some (ax_i x4), y5, y6] [ax_i x1, .ref 288, ax_i x3, .ref 222] rfl ?_
    obtain ⟨o2, h⟩ := h
    refine ax_ild (n := 9) (pc' := 60) ⟨_, rfl⟩ ay_288 (by decide) o2 rfl ?_
    refine ax_callN (pc' := 63) ⟨_, rfl⟩ ml_12_703 (rest := []) rfl (fun ss hs => ⟨_, _, ay_222 ss hs⟩) (Nat.le_of_ble_eq_true rfl) rfl rfl h (fun V6 hg6 h => ?_)
    refine ax_mv 3 66 [some (.ref 222), some (ax_i x1), some (ax_i x2), some (ax_i x3), some (ax_i x4), y5, y6] [ax_i 0, ax_i (-1), .ref 222] rfl ?_
    refine ax_callN (pc' := 69) ⟨_, rfl⟩ ml_12_705 (rest := []) rfl (fun ss hs => ⟨_, _, ay_222 ss hs⟩) (Nat.le_of_ble_eq_true rfl) rfl rfl h (fun V7 hg7 h => ?_)
    refine ax_mv 1 70 [some (.ref 222), some (ax_i x1), some (ax_i x2), some (ax_i x3), some (ax_i x4), y5, y6] [ax_i 0] rfl ?_
    refine ax_sti (i := 0) (k := 5) (n := 2) (pc' := 72) (L' := [some (.ref 222), some (ax_i x1), some (ax_i x2), some (ax_i x3), some (ax_i x4), some (ax_i 0), y6]) ⟨_, rfl⟩ rfl rfl rfl (Nat.le_of_ble_eq_true rfl) rfl rfl ?_
    exact h
set_option maxRecDepth 20000 in
theorem r_Model_search_72 {d : Nat} {V : ax_V} {Φ : Int → ax_V → Prop} {Θ : ax_V → Prop} {x1 : Int} {x2 : Int} {x3 : Int} {x4 : Int} {x5 : Int} {y6 : Option Value} (hg : ax_g V) (hx1 : ax_rg x1) (hx2 : ax_rg x2) (hx3 : ax_rg x3) (hx4 : ax_rg x4) (hx5 : ax_rg x5) (hy6 : ax_y y6) (h : ((V 222 115 ≤ x5 → Φ 1 V) ∧ (x5 < V 222 115 → k_Model_search_84 d x1 x2 x3 x4 x5 0 V Φ Θ))) : k_Model_search_72 d x1 x2 x3 x4 x5 y6 V Φ Θ := by
  refine ax_mv 2 75 [some (.ref 222), some (ax_i x1), some (ax_i x2), some (ax_i x3), some (ax_i x4), some (ax_i x5), y6] [.ref 222, ax_i x5] rfl ?_
  refine ax_gI (kI := 115) (pc' := 78) ⟨_, rfl⟩ fl_12_688 ay_222 rfl rfl rfl ?_
  refine ax_if2 (p1 := 178) (p2 := 81) ⟨_, rfl⟩ (by decide) rfl hx5 (hg _ _) (fun hc => ?_) (fun hc => ?_)
  · have h := h.1 hc
    refine ax_mv 1 179 [some (.ref 222), some (ax_i x1), some (ax_i x2), some (ax_i x3), some (ax_i x4), some (ax_i x5), y6] [ax_i 1] rfl ?_
    exact ax_iret ⟨_, rfl⟩ rfl rfl (by decide) hg h
  · have h := h.2 (Int.not_le.mp hc)
    refine ax_mv 1 82 [some (.ref 222), some (ax_i x1), some (ax_i x2), some (ax_i x3), some (ax_i x4), some (ax_i x5), y6] [ax_i 0] rfl ?_
    refine ax_sti (i := 0) (k := 6) (n := 2) (pc' := 84) (L' := [some (.ref 222), some (ax_i x1), some (ax_i x2), some (ax_i x3), some (ax_i x4), some (ax_i x5), some (ax_i 0)]) ⟨_, rfl⟩ rfl rfl rfl (Nat.le_of_ble_eq_true rfl) rfl rfl ?_
    exact h
set_option maxRecDepth 20000 in
theorem r_Model_search_84 {d : Nat} {V : ax_V} {Φ : Int → ax_V → Prop} {Θ : ax_V → Prop} {x1 : Int} {x2 : Int} {x3 : Int} {x4 : Int} {x5 : Int} {x6 : Int} (hg : ax_g V) (hx1 : ax_rg x1) (hx2 : ax_rg x2) (hx3 : ax_rg x3) (hx4 : ax_rg x4) (hx5 : ax_rg x5) (hx6 : ax_rg x6) (h : (0 ≤ x1 ∧ x1 < 9) ∧ ((ax_shl 1 (V 227 x1) ≤ x6 → k_Model_search_72 d x1 x2 x3 x4 (x5 + 1) (some (ax_i x6)) V Φ Θ) ∧ (x6 < ax_shl 1 (V 227 x1) → ax_N ay_lay d q_Model_recall [.ref 222, ax_i x5] V (fun V1 => (∀ V2, V2 = ax_u V1 222 123 0 → ax_I ay_lay d q_Model_isGood [.ref 222, ax_i x1, ax_i x2, ax_i x3, ax_i x6] V2 (fun r3 V3 => ((r3 = 0 → ax_N ay_lay d q_Model_findWay [.ref 222, ax_i x5, ax_i x6] V3 (fun V6 => Φ 0 V6) Θ) ∧ (¬ r3 = 0 → ((V3 222 123 = 0 → ax_I ay_lay d q_Model_isSeen [.ref 222] V3 (fun r4 V4 => ((r4 = 0 → ((V4 222 115 = x4 → Φ 2 V4) ∧ (¬ V4 222 115 = x4 → ax_N ay_lay d q_Model_keep [.ref 222, ax_i x5, ax_i x6] V4 (fun V5 => k_Model_search_84 d x1 x2 x3 x4 x5 (x6 + 1) V5 Φ Θ) Θ))) ∧ (¬ r4 = 0 → k_Model_search_84 d x1 x2 x3 x4 x5 (x6 + 1) V4 Φ Θ))) Θ) ∧ (¬ V3 222 123 = 0 → k_Model_search_84 d x1 x2 x3 x4 x5 (x6 + 1) V3 Φ Θ))))) Θ)) Θ))) : k_Model_search_84 d x1 x2 x3 x4 x5 x6 V Φ Θ := by
  refine ax_mv 3 88 [some (.ref 222), some (ax_i x1), some (ax_i x2), some (ax_i x3), some (ax_i x4), some (ax_i x5), some (ax_i x6)] [.ref 222, ax_i 1, ax_i x6] rfl ?_
  refine ax_gR (v := .ref 227) (pc' := 91) ⟨_, rfl⟩ fl_12_22 ay_222 rfl rfl ?_
  refine ax_mv 1 92 [some (.ref 222), some (ax_i x1), some (ax_i x2), some (ax_i x3), some (ax_i x4), some (ax_i x5), some (ax_i x6)] [ax_i x1, .ref 227, ax_i 1, ax_i x6] rfl ?_
  obtain ⟨o3, h⟩ := h
  refine ax_ild (n := 9) (pc' := 93) ⟨_, rfl⟩ ay_227 (by decide) o3 rfl ?_
  refine ax_rshl (pc' := 94) ⟨_, rfl⟩ rfl ?_
  refine ax_if2 (p1 := 172) (p2 := 97) ⟨_, rfl⟩ (by decide) rfl hx6 (ax_rg_of _) (fun hc => ?_) (fun hc => ?_)
  · have h := h.1 hc
    refine ax_inc (x := x5) (pc' := 175) (L' := [some (.ref 222), some (ax_i x1), some (ax_i x2), some (ax_i x3), some (ax_i x4), some (ax_i (x5 + 1)), some (ax_i x6)]) ⟨_, rfl⟩ rfl rfl rfl rfl ?_
    refine ax_mv 1 72 [some (.ref 222), some (ax_i x1), some (ax_i x2), some (ax_i x3), some (ax_i x4), some (ax_i (x5 + 1)), some (ax_i x6)] [] rfl ?_
    exact h
  · have h := h.2 (Int.not_le.mp hc)
    refine ax_mv 2 100 [some (.ref 222), some (ax_i x1), some (ax_i x2), some (ax_i x3), some (ax_i x4), some (ax_i x5), some (ax_i x6)] [ax_i x5, .ref 222] rfl ?_
    refine ax_callN (pc' := 103) ⟨_, rfl⟩ ml_12_708 (rest := []) rfl (fun ss hs => ⟨_, _, ay_222 ss hs⟩) (Nat.le_of_ble_eq_true rfl) rfl rfl h (fun V1 hg1 h => ?_)
    refine ax_mv 2 105 [some (.ref 222), some (ax_i x1), some (ax_i x2), some (ax_i x3), some (ax_i x4), some (ax_i x5), some (ax_i x6)] [ax_i 0, .ref 222] rfl ?_
    obtain ⟨V2, eV2⟩ : ∃ W9 : ax_V, W9 = ax_u V1 222 123 0 := ⟨_, rfl⟩
    have h := h V2 eV2
    have hg2 : ax_g V2 := eV2 ▸ ax_u_g hg1 (by decide)
    refine ax_pI (kI := 123) (pc' := 108) ⟨_, rfl⟩ fl_12_694 ay_ok ay_222 rfl rfl (ax_nbv (by decide)) rfl eV2 rfl ?_
    refine ax_mv 5 114 [some (.ref 222), some (ax_i x1), some (ax_i x2), some (ax_i x3), some (ax_i x4), some (ax_i x5), some (ax_i x6)] [ax_i x6, ax_i x3, ax_i x2, ax_i x1, .ref 222] rfl ?_
    refine ax_callI (pc' := 117) ⟨_, rfl⟩ ml_12_711 (rest := []) rfl (fun ss hs => ⟨_, _, ay_222 ss hs⟩) (Nat.le_of_ble_eq_true rfl) rfl rfl h (fun r3 V3 hg3 hr3 h => ?_)
    refine ax_if (p1 := 130) (p2 := 120) ⟨_, rfl⟩ (by decide) rfl hr3 (fun hc => ?_) (fun hc => ?_)
    · have h := h.2 hc
      refine ax_mv 1 131 [some (.ref 222), some (ax_i x1), some (ax_i x2), some (ax_i x3), some (ax_i x4), some (ax_i x5), some (ax_i x6)] [.ref 222] rfl ?_
      refine ax_gI (kI := 123) (pc' := 134) ⟨_, rfl⟩ fl_12_694 ay_222 rfl rfl rfl ?_
      refine ax_if (p1 := 166) (p2 := 137) ⟨_, rfl⟩ (by decide) rfl (hg3 _ _) (fun hc => ?_) (fun hc => ?_)
      · have h := h.2 hc
        refine ax_inc (x := x6) (pc' := 169) (L' := [some (.ref 222), some (ax_i x1), some (ax_i x2), some (ax_i x3), some (ax_i x4), some (ax_i x5), some (ax_i (x6 + 1))]) ⟨_, rfl⟩ rfl rfl rfl rfl ?_
        refine ax_mv 1 84 [some (.ref 222), some (ax_i x1), some (ax_i x2), some (ax_i x3), some (ax_i x4), some (ax_i x5), some (ax_i (x6 + 1))] [] rfl ?_
        exact h
      · have h := h.1 (Classical.not_not.mp hc)
        refine ax_mv 1 138 [some (.ref 222), some (ax_i x1), some (ax_i x2), some (ax_i x3), some (ax_i x4), some (ax_i x5), some (ax_i x6)] [.ref 222] rfl ?_
        refine ax_callI (pc' := 141) ⟨_, rfl⟩ ml_12_718 (rest := []) rfl (fun ss hs => ⟨_, _, ay_222 ss hs⟩) (Nat.le_of_ble_eq_true rfl) rfl rfl h (fun r4 V4 hg4 hr4 h => ?_)
        refine ax_if (p1 := 147) (p2 := 144) ⟨_, rfl⟩ (by decide) rfl hr4 (fun hc => ?_) (fun hc => ?_)
        · have h := h.1 hc
          refine ax_mv 1 148 [some (.ref 222), some (ax_i x1), some (ax_i x2), some (ax_i x3), some (ax_i x4), some (ax_i x5), some (ax_i x6)] [.ref 222] rfl ?_
          refine ax_gI (kI := 115) (pc' := 151) ⟨_, rfl⟩ fl_12_688 ay_222 rfl rfl rfl ?_
          refine ax_mv 1 153 [some (.ref 222), some (ax_i x1), some (ax_i x2), some (ax_i x3), some (ax_i x4), some (ax_i x5), some (ax_i x6)] [ax_i x4, ax_i (V4 222 115)] rfl ?_
          refine ax_if2 (p1 := 158) (p2 := 156) ⟨_, rfl⟩ (by decide) rfl (hg4 _ _) hx4 (fun hc => ?_) (fun hc => ?_)
          · have h := h.2 hc
            refine ax_mv 3 163 [some (.ref 222), some (ax_i x1), some (ax_i x2), some (ax_i x3), some (ax_i x4), some (ax_i x5), some (ax_i x6)] [ax_i x6, ax_i x5, .ref 222] rfl ?_
            refine ax_callN (pc' := 166) ⟨_, rfl⟩ ml_12_705 (rest := []) rfl (fun ss hs => ⟨_, _, ay_222 ss hs⟩) (Nat.le_of_ble_eq_true rfl) rfl rfl h (fun V5 hg5 h => ?_)
            refine ax_inc (x := x6) (pc' := 169) (L' := [some (.ref 222), some (ax_i x1), some (ax_i x2), some (ax_i x3), some (ax_i x4), some (ax_i x5), some (ax_i (x6 + 1))]) ⟨_, rfl⟩ rfl rfl rfl rfl ?_
            refine ax_mv 1 84 [some (.ref 222), some (ax_i x1), some (ax_i x2), some (ax_i x3), some (ax_i x4), some (ax_i x5), some (ax_i (x6 + 1))] [] rfl ?_
            exact h
          · have h := h.1 (Classical.not_not.mp hc)
            refine ax_mv 1 157 [some (.ref 222), some (ax_i x1), some (ax_i x2), some (ax_i x3), some (ax_i x4), some (ax_i x5), some (ax_i x6)] [ax_i 2] rfl ?_
            exact ax_iret ⟨_, rfl⟩ rfl rfl (by decide) hg4 h
        · have h := h.2 hc
          refine ax_mv 1 166 [some (.ref 222), some (ax_i x1), some (ax_i x2), some (ax_i x3), some (ax_i x4), some (ax_i x5), some (ax_i x6)] [] rfl ?_
          refine ax_inc (x := x6) (pc' := 169) (L' := [some (.ref 222), some (ax_i x1), some (ax_i x2), some (ax_i x3), some (ax_i x4), some (ax_i x5), some (ax_i (x6 + 1))]) ⟨_, rfl⟩ rfl rfl rfl rfl ?_
          refine ax_mv 1 84 [some (.ref 222), some (ax_i x1), some (ax_i x2), some (ax_i x3), some (ax_i x4), some (ax_i x5), some (ax_i (x6 + 1))] [] rfl ?_
          exact h
    · have h := h.1 (Classical.not_not.mp hc)
      refine ax_mv 3 125 [some (.ref 222), some (ax_i x1), some (ax_i x2), some (ax_i x3), some (ax_i x4), some (ax_i x5), some (ax_i x6)] [ax_i x6, ax_i x5, .ref 222] rfl ?_
      refine ax_callN (pc' := 128) ⟨_, rfl⟩ ml_12_715 (rest := []) rfl (fun ss hs => ⟨_, _, ay_222 ss hs⟩) (Nat.le_of_ble_eq_true rfl) rfl rfl h (fun V6 hg6 h => ?_)
      refine ax_mv 1 129 [some (.ref 222), some (ax_i x1), some (ax_i x2), some (ax_i x3), some (ax_i x4), some (ax_i x5), some (ax_i x6)] [ax_i 0] rfl ?_
      exact ax_iret ⟨_, rfl⟩ rfl rfl (by decide) hg6 h
set_option maxRecDepth 20000 in
theorem r_Model_search {d : Nat} {V : ax_V} {Φ : Int → ax_V → Prop} {Θ : ax_V → Prop} {x1 : Int} {x2 : Int} {x3 : Int} {x4 : Int} (hg : ax_g V) (hx1 : ax_rg x1) (hx2 : ax_rg x2) (hx3 : ax_rg x3) (hx4 : ax_rg x4) (h : (∀ V1, V1 = ax_u V 222 113 1 → (0 ≤ x1 ∧ x1 < 9) ∧ ((x3 = -1 → k_Model_search_27 d x1 x2 x3 x4 none none 0 (V1 288 x1) V1 Φ Θ) ∧ (¬ x3 = -1 → (0 ≤ x3 ∧ x3 < 9) ∧ k_Model_search_27 d x1 x2 x3 x4 none none (V1 288 x3) (V1 288 x1) V1 Φ Θ)))) : ax_I ay_lay (d + 1) q_Model_search [.ref 222, ax_i x1, ax_i x2, ax_i x3, ax_i x4] V Φ Θ := by
  refine ax_T.of (M := m_Model_search) rfl (Nat.le_of_ble_eq_true rfl) ?_
  refine ax_mv 0 0 [some (.ref 222), some (ax_i x1), some (ax_i x2), some (ax_i x3), some (ax_i x4), none, none] [] rfl ?_
  refine ax_mv 2 2 [some (.ref 222), some (ax_i x1), some (ax_i x2), some (ax_i x3), some (ax_i x4), none, none] [ax_i 1, .ref 222] rfl ?_
  obtain ⟨V1, eV1⟩ : ∃ W9 : ax_V, W9 = ax_u V 222 113 1 := ⟨_, rfl⟩
  have h := h V1 eV1
  have hg1 : ax_g V1 := eV1 ▸ ax_u_g hg (by decide)
  refine ax_pI (kI := 113) (pc' := 5) ⟨_, rfl⟩ fl_12_700 ay_ok ay_222 rfl rfl (ax_nbv (by decide)) rfl eV1 rfl ?_
  refine ax_mv 2 7 [some (.ref 222), some (ax_i x1), some (ax_i x2), some (ax_i x3), some (ax_i x4), none, none] [.ref 222, .ref 222] rfl ?_
  refine ax_gR (v := .ref 288) (pc' := 10) ⟨_, rfl⟩ fl_12_206 ay_222 rfl rfl ?_
  refine ax_mv 1 11 [some (.ref 222), some (ax_i x1), some (ax_i x2), some (ax_i x3), some (ax_i x4), none, none] [ax_i x1, .ref 288, .ref 222] rfl ?_
  obtain ⟨o4, h⟩ := h
  refine ax_ild (n := 9) (pc' := 12) ⟨_, rfl⟩ ay_288 (by decide) o4 rfl ?_
  refine ax_mv 2 14 [some (.ref 222), some (ax_i x1), some (ax_i x2), some (ax_i x3), some (ax_i x4), none, none] [ax_i (-1), ax_i x3, ax_i (V1 288 x1), .ref 222] rfl ?_
  refine ax_if2 (p1 := 21) (p2 := 17) ⟨_, rfl⟩ (by decide) rfl hx3 (by decide) (fun hc => ?_) (fun hc => ?_)
  · have h := h.2 hc
    refine ax_mv 1 22 [some (.ref 222), some (ax_i x1), some (ax_i x2), some (ax_i x3), some (ax_i x4), none, none] [.ref 222, ax_i (V1 288 x1), .ref 222] rfl ?_
    refine ax_gR (v := .ref 288) (pc' := 25) ⟨_, rfl⟩ fl_12_206 ay_222 rfl rfl ?_
    refine ax_mv 1 26 [some (.ref 222), some (ax_i x1), some (ax_i x2), some (ax_i x3), some (ax_i x4), none, none] [ax_i x3, .ref 288, ax_i (V1 288 x1), .ref 222] rfl ?_
    obtain ⟨o5, h⟩ := h
    refine ax_ild (n := 9) (pc' := 27) ⟨_, rfl⟩ ay_288 (by decide) o5 rfl ?_
    exact h
  · have h := h.1 (Classical.not_not.mp hc)
    refine ax_mv 2 27 [some (.ref 222), some (ax_i x1), some (ax_i x2), some (ax_i x3), some (ax_i x4), none, none] [ax_i 0, ax_i (V1 288 x1), .ref 222] rfl ?_
    exact h
abbrev k_Model_begin_2 (d : Nat) (x1 : Int) (x2 : Int) (x3 : Int) (V : ax_V) (Φ : ax_V → Prop) (Θ : ax_V → Prop) : Prop := ax_R ay_lay ax_t d m_Model_begin 2 [some (.ref 222), some (ax_i x1), some (ax_i x2), some (ax_i x3)] [] V (ax_Nr Φ) Θ
theorem r_Model_begin_2 {d : Nat} {V : ax_V} {Φ : ax_V → Prop} {Θ : ax_V → Prop} {x1 : Int} {x2 : Int} {x3 : Int} (hg : ax_g V) (hx1 : ax_rg x1) (hx2 : ax_rg x2) (hx3 : ax_rg x3) (h : (0 ≤ x1 ∧ x1 < 9) ∧ ((V 288 x1 ≤ x3 → Φ V) ∧ (x3 < V 288 x1 → (0 ≤ (300 * x1) + x3 ∧ (300 * x1) + x3 < 2700) ∧ (0 ≤ x2 + x3 ∧ x2 + x3 < 600) ∧ (∀ V1, V1 = ax_u V 292 (x2 + x3) (V 290 ((300 * x1) + x3)) → k_Model_begin_2 d x1 x2 (x3 + 1) V1 Φ Θ)))) : k_Model_begin_2 d x1 x2 x3 V Φ Θ := by
  refine ax_mv 2 4 [some (.ref 222), some (ax_i x1), some (ax_i x2), some (ax_i x3)] [.ref 222, ax_i x3] rfl ?_
  refine ax_gR (v := .ref 288) (pc' := 7) ⟨_, rfl⟩ fl_12_206 ay_222 rfl rfl ?_
  refine ax_mv 1 8 [some (.ref 222), some (ax_i x1), some (ax_i x2), some (ax_i x3)] [ax_i x1, .ref 288, ax_i x3] rfl ?_
  obtain ⟨o1, h⟩ := h
  refine ax_ild (n := 9) (pc' := 9) ⟨_, rfl⟩ ay_288 (by decide) o1 rfl ?_
  refine ax_if2 (p1 := 38) (p2 := 12) ⟨_, rfl⟩ (by decide) rfl hx3 (hg _ _) (fun hc => ?_) (fun hc => ?_)
  · have h := h.1 hc
    exact ax_nret ⟨_, rfl⟩ rfl hg h
  · have h := h.2 (Int.not_le.mp hc)
    refine ax_mv 1 13 [some (.ref 222), some (ax_i x1), some (ax_i x2), some (ax_i x3)] [.ref 222] rfl ?_
    refine ax_gR (v := .ref 292) (pc' := 16) ⟨_, rfl⟩ fl_12_218 ay_222 rfl rfl ?_
    refine ax_mv 2 18 [some (.ref 222), some (ax_i x1), some (ax_i x2), some (ax_i x3)] [ax_i x3, ax_i x2, .ref 292] rfl ?_
    refine ax_add (pc' := 19) ⟨_, rfl⟩ rfl ?_
    refine ax_mv 1 20 [some (.ref 222), some (ax_i x1), some (ax_i x2), some (ax_i x3)] [.ref 222, ax_i (x2 + x3), .ref 292] rfl ?_
    refine ax_gR (v := .ref 290) (pc' := 23) ⟨_, rfl⟩ fl_12_212 ay_222 rfl rfl ?_
    refine ax_sip (pc' := 26) ⟨_, rfl⟩ (by decide) rfl ?_
    refine ax_mv 1 27 [some (.ref 222), some (ax_i x1), some (ax_i x2), some (ax_i x3)] [ax_i x1, ax_i 300, .ref 290, ax_i (x2 + x3), .ref 292] rfl ?_
    refine ax_mul (pc' := 28) ⟨_, rfl⟩ rfl ?_
    refine ax_mv 1 29 [some (.ref 222), some (ax_i x1), some (ax_i x2), some (ax_i x3)] [ax_i x3, ax_i (300 * x1), .ref 290, ax_i (x2 + x3), .ref 292] rfl ?_
    refine ax_add (pc' := 30) ⟨_, rfl⟩ rfl ?_
    obtain ⟨o2, h⟩ := h
    refine ax_ild (n := 2700) (pc' := 31) ⟨_, rfl⟩ ay_290 (by decide) o2 rfl ?_
    obtain ⟨o3, h⟩ := h
    obtain ⟨V1, eV1⟩ : ∃ W9 : ax_V, W9 = ax_u V 292 (x2 + x3) (V 290 ((300 * x1) + x3)) := ⟨_, rfl⟩
    have h := h V1 eV1
    have hg1 : ax_g V1 := eV1 ▸ ax_u_g hg (hg _ _)
    refine ax_ist (n := 600) (pc' := 32) ⟨_, rfl⟩ ay_ok ay_292 (by decide) o3 eV1 rfl ?_
    refine ax_inc (x := x3) (pc' := 35) (L' := [some (.ref 222), some (ax_i x1), some (ax_i x2), some (ax_i (x3 + 1))]) ⟨_, rfl⟩ rfl rfl rfl rfl ?_
    refine ax_mv 1 2 [some (.ref 222), some (ax_i x1), some (ax_i x2), some (ax_i (x3 + 1))] [] rfl ?_
    exact h
theorem r_Model_begin {d : Nat} {V : ax_V} {Φ : ax_V → Prop} {Θ : ax_V → Prop} {x1 : Int} {x2 : Int} (hg : ax_g V) (hx1 : ax_rg x1) (hx2 : ax_rg x2) (h : k_Model_begin_2 d x1 x2 0 V Φ Θ) : ax_N ay_lay (d + 1) q_Model_begin [.ref 222, ax_i x1, ax_i x2] V Φ Θ := by
  refine ax_T.of (M := m_Model_begin) rfl (Nat.le_of_ble_eq_true rfl) ?_
  refine ax_mv 0 0 [some (.ref 222), some (ax_i x1), some (ax_i x2), none] [] rfl ?_
  refine ax_mv 1 1 [some (.ref 222), some (ax_i x1), some (ax_i x2), none] [ax_i 0] rfl ?_
  refine ax_sti (i := 0) (k := 3) (n := 1) (pc' := 2) (L' := [some (.ref 222), some (ax_i x1), some (ax_i x2), some (ax_i 0)]) ⟨_, rfl⟩ rfl rfl rfl (Nat.le_of_ble_eq_true rfl) rfl rfl ?_
  exact h
abbrev k_Model_keep_2 (d : Nat) (x1 : Int) (x2 : Int) (x3 : Int) (V : ax_V) (Φ : ax_V → Prop) (Θ : ax_V → Prop) : Prop := ax_R ay_lay ax_t d m_Model_keep 2 [some (.ref 222), some (ax_i x1), some (ax_i x2), some (ax_i x3)] [] V (ax_Nr Φ) Θ
theorem r_Model_keep_2 {d : Nat} {V : ax_V} {Φ : ax_V → Prop} {Θ : ax_V → Prop} {x1 : Int} {x2 : Int} {x3 : Int} (hg : ax_g V) (hx1 : ax_rg x1) (hx2 : ax_rg x2) (hx3 : ax_rg x3) (h : ((V 222 116 ≤ x3 → (0 ≤ V 222 115 ∧ V 222 115 < 300) ∧ (∀ V1, V1 = ax_u V 310 (V 222 115) x1 → (0 ≤ V1 222 115 ∧ V1 222 115 < 300) ∧ (∀ V2, V2 = ax_u V1 311 (V1 222 115) x2 → ax_rg ((V2 222 115) + 1) ∧ (∀ V3, V3 = ax_u V2 222 115 ((V2 222 115) + 1) → Φ V3)))) ∧ (x3 < V 222 116 → (0 ≤ x3 ∧ x3 < 600) ∧ (0 ≤ (600 * (V 222 115)) + x3 ∧ (600 * (V 222 115)) + x3 < 180000) ∧ (∀ V4, V4 = ax_u V 309 ((600 * (V 222 115)) + x3) (V 292 x3) → k_Model_keep_2 d x1 x2 (x3 + 1) V4 Φ Θ)))) : k_Model_keep_2 d x1 x2 x3 V Φ Θ := by
  refine ax_mv 2 4 [some (.ref 222), some (ax_i x1), some (ax_i x2), some (ax_i x3)] [.ref 222, ax_i x3] rfl ?_
  refine ax_gI (kI := 116) (pc' := 7) ⟨_, rfl⟩ fl_12_685 ay_222 rfl rfl rfl ?_
  refine ax_if2 (p1 := 37) (p2 := 10) ⟨_, rfl⟩ (by decide) rfl hx3 (hg _ _) (fun hc => ?_) (fun hc => ?_)
  · have h := h.1 hc
    refine ax_mv 1 38 [some (.ref 222), some (ax_i x1), some (ax_i x2), some (ax_i x3)] [.ref 222] rfl ?_
    refine ax_gR (v := .ref 310) (pc' := 41) ⟨_, rfl⟩ fl_12_273 ay_222 rfl rfl ?_
    refine ax_mv 1 42 [some (.ref 222), some (ax_i x1), some (ax_i x2), some (ax_i x3)] [.ref 222, .ref 310] rfl ?_
    refine ax_gI (kI := 115) (pc' := 45) ⟨_, rfl⟩ fl_12_688 ay_222 rfl rfl rfl ?_
    refine ax_mv 1 46 [some (.ref 222), some (ax_i x1), some (ax_i x2), some (ax_i x3)] [ax_i x1, ax_i (V 222 115), .ref 310] rfl ?_
    obtain ⟨o1, h⟩ := h
    obtain ⟨V1, eV1⟩ : ∃ W9 : ax_V, W9 = ax_u V 310 (V 222 115) x1 := ⟨_, rfl⟩
    have h := h V1 eV1
    have hg1 : ax_g V1 := eV1 ▸ ax_u_g hg hx1
    refine ax_ist (n := 300) (pc' := 47) ⟨_, rfl⟩ ay_ok ay_310 (by decide) o1 eV1 rfl ?_
    refine ax_mv 1 48 [some (.ref 222), some (ax_i x1), some (ax_i x2), some (ax_i x3)] [.ref 222] rfl ?_
    refine ax_gR (v := .ref 311) (pc' := 51) ⟨_, rfl⟩ fl_12_276 ay_222 rfl rfl ?_
    refine ax_mv 1 52 [some (.ref 222), some (ax_i x1), some (ax_i x2), some (ax_i x3)] [.ref 222, .ref 311] rfl ?_
    refine ax_gI (kI := 115) (pc' := 55) ⟨_, rfl⟩ fl_12_688 ay_222 rfl rfl rfl ?_
    refine ax_mv 1 56 [some (.ref 222), some (ax_i x1), some (ax_i x2), some (ax_i x3)] [ax_i x2, ax_i (V1 222 115), .ref 311] rfl ?_
    obtain ⟨o2, h⟩ := h
    obtain ⟨V2, eV2⟩ : ∃ W9 : ax_V, W9 = ax_u V1 311 (V1 222 115) x2 := ⟨_, rfl⟩
    have h := h V2 eV2
    have hg2 : ax_g V2 := eV2 ▸ ax_u_g hg1 hx2
    refine ax_ist (n := 300) (pc' := 57) ⟨_, rfl⟩ ay_ok ay_311 (by decide) o2 eV2 rfl ?_
    refine ax_mv 2 59 [some (.ref 222), some (ax_i x1), some (ax_i x2), some (ax_i x3)] [.ref 222, .ref 222] rfl ?_
    refine ax_gI (kI := 115) (pc' := 62) ⟨_, rfl⟩ fl_12_688 ay_222 rfl rfl rfl ?_
    refine ax_mv 1 63 [some (.ref 222), some (ax_i x1), some (ax_i x2), some (ax_i x3)] [ax_i 1, ax_i (V2 222 115), .ref 222] rfl ?_
    refine ax_add (pc' := 64) ⟨_, rfl⟩ rfl ?_
    obtain ⟨o3, h⟩ := h
    obtain ⟨V3, eV3⟩ : ∃ W9 : ax_V, W9 = ax_u V2 222 115 ((V2 222 115) + 1) := ⟨_, rfl⟩
    have h := h V3 eV3
    have hg3 : ax_g V3 := eV3 ▸ ax_u_g hg2 o3
    refine ax_pI (kI := 115) (pc' := 67) ⟨_, rfl⟩ fl_12_688 ay_ok ay_222 rfl rfl rfl rfl eV3 rfl ?_
    exact ax_nret ⟨_, rfl⟩ rfl hg3 h
  · have h := h.2 (Int.not_le.mp hc)
    refine ax_mv 1 11 [some (.ref 222), some (ax_i x1), some (ax_i x2), some (ax_i x3)] [.ref 222] rfl ?_
    refine ax_gR (v := .ref 309) (pc' := 14) ⟨_, rfl⟩ fl_12_270 ay_222 rfl rfl ?_
    refine ax_sip (pc' := 17) ⟨_, rfl⟩ (by decide) rfl ?_
    refine ax_mv 1 18 [some (.ref 222), some (ax_i x1), some (ax_i x2), some (ax_i x3)] [.ref 222, ax_i 600, .ref 309] rfl ?_
    refine ax_gI (kI := 115) (pc' := 21) ⟨_, rfl⟩ fl_12_688 ay_222 rfl rfl rfl ?_
    refine ax_mul (pc' := 22) ⟨_, rfl⟩ rfl ?_
    refine ax_mv 1 23 [some (.ref 222), some (ax_i x1), some (ax_i x2), some (ax_i x3)] [ax_i x3, ax_i (600 * (V 222 115)), .ref 309] rfl ?_
    refine ax_add (pc' := 24) ⟨_, rfl⟩ rfl ?_
    refine ax_mv 1 25 [some (.ref 222), some (ax_i x1), some (ax_i x2), some (ax_i x3)] [.ref 222, ax_i ((600 * (V 222 115)) + x3), .ref 309] rfl ?_
    refine ax_gR (v := .ref 292) (pc' := 28) ⟨_, rfl⟩ fl_12_218 ay_222 rfl rfl ?_
    refine ax_mv 1 29 [some (.ref 222), some (ax_i x1), some (ax_i x2), some (ax_i x3)] [ax_i x3, .ref 292, ax_i ((600 * (V 222 115)) + x3), .ref 309] rfl ?_
    obtain ⟨o4, h⟩ := h
    refine ax_ild (n := 600) (pc' := 30) ⟨_, rfl⟩ ay_292 (by decide) o4 rfl ?_
    obtain ⟨o5, h⟩ := h
    obtain ⟨V4, eV4⟩ : ∃ W9 : ax_V, W9 = ax_u V 309 ((600 * (V 222 115)) + x3) (V 292 x3) := ⟨_, rfl⟩
    have h := h V4 eV4
    have hg4 : ax_g V4 := eV4 ▸ ax_u_g hg (hg _ _)
    refine ax_ist (n := 180000) (pc' := 31) ⟨_, rfl⟩ ay_ok ay_309 (by decide) o5 eV4 rfl ?_
    refine ax_inc (x := x3) (pc' := 34) (L' := [some (.ref 222), some (ax_i x1), some (ax_i x2), some (ax_i (x3 + 1))]) ⟨_, rfl⟩ rfl rfl rfl rfl ?_
    refine ax_mv 1 2 [some (.ref 222), some (ax_i x1), some (ax_i x2), some (ax_i (x3 + 1))] [] rfl ?_
    exact h
theorem r_Model_keep {d : Nat} {V : ax_V} {Φ : ax_V → Prop} {Θ : ax_V → Prop} {x1 : Int} {x2 : Int} (hg : ax_g V) (hx1 : ax_rg x1) (hx2 : ax_rg x2) (h : k_Model_keep_2 d x1 x2 0 V Φ Θ) : ax_N ay_lay (d + 1) q_Model_keep [.ref 222, ax_i x1, ax_i x2] V Φ Θ := by
  refine ax_T.of (M := m_Model_keep) rfl (Nat.le_of_ble_eq_true rfl) ?_
  refine ax_mv 0 0 [some (.ref 222), some (ax_i x1), some (ax_i x2), none] [] rfl ?_
  refine ax_mv 1 1 [some (.ref 222), some (ax_i x1), some (ax_i x2), none] [ax_i 0] rfl ?_
  refine ax_sti (i := 0) (k := 3) (n := 1) (pc' := 2) (L' := [some (.ref 222), some (ax_i x1), some (ax_i x2), some (ax_i 0)]) ⟨_, rfl⟩ rfl rfl rfl (Nat.le_of_ble_eq_true rfl) rfl rfl ?_
  exact h
abbrev k_Model_recall_2 (d : Nat) (x1 : Int) (x2 : Int) (V : ax_V) (Φ : ax_V → Prop) (Θ : ax_V → Prop) : Prop := ax_R ay_lay ax_t d m_Model_recall 2 [some (.ref 222), some (ax_i x1), some (ax_i x2)] [] V (ax_Nr Φ) Θ
theorem r_Model_recall_2 {d : Nat} {V : ax_V} {Φ : ax_V → Prop} {Θ : ax_V → Prop} {x1 : Int} {x2 : Int} (hg : ax_g V) (hx1 : ax_rg x1) (hx2 : ax_rg x2) (h : ((V 222 116 ≤ x2 → Φ V) ∧ (x2 < V 222 116 → (0 ≤ (600 * x1) + x2 ∧ (600 * x1) + x2 < 180000) ∧ (0 ≤ x2 ∧ x2 < 600) ∧ (∀ V1, V1 = ax_u V 291 x2 (V 309 ((600 * x1) + x2)) → (0 ≤ x2 ∧ x2 < 600) ∧ (0 ≤ x2 ∧ x2 < 600) ∧ (∀ V2, V2 = ax_u V1 292 x2 (V1 291 x2) → k_Model_recall_2 d x1 (x2 + 1) V2 Φ Θ))))) : k_Model_recall_2 d x1 x2 V Φ Θ := by
  refine ax_mv 2 4 [some (.ref 222), some (ax_i x1), some (ax_i x2)] [.ref 222, ax_i x2] rfl ?_
  refine ax_gI (kI := 116) (pc' := 7) ⟨_, rfl⟩ fl_12_685 ay_222 rfl rfl rfl ?_
  refine ax_if2 (p1 := 46) (p2 := 10) ⟨_, rfl⟩ (by decide) rfl hx2 (hg _ _) (fun hc => ?_) (fun hc => ?_)
  · have h := h.1 hc
    exact ax_nret ⟨_, rfl⟩ rfl hg h
  · have h := h.2 (Int.not_le.mp hc)
    refine ax_mv 1 11 [some (.ref 222), some (ax_i x1), some (ax_i x2)] [.ref 222] rfl ?_
    refine ax_gR (v := .ref 291) (pc' := 14) ⟨_, rfl⟩ fl_12_215 ay_222 rfl rfl ?_
    refine ax_mv 2 16 [some (.ref 222), some (ax_i x1), some (ax_i x2)] [.ref 222, ax_i x2, .ref 291] rfl ?_
    refine ax_gR (v := .ref 309) (pc' := 19) ⟨_, rfl⟩ fl_12_270 ay_222 rfl rfl ?_
    refine ax_sip (pc' := 22) ⟨_, rfl⟩ (by decide) rfl ?_
    refine ax_mv 1 23 [some (.ref 222), some (ax_i x1), some (ax_i x2)] [ax_i x1, ax_i 600, .ref 309, ax_i x2, .ref 291] rfl ?_
    refine ax_mul (pc' := 24) ⟨_, rfl⟩ rfl ?_
    refine ax_mv 1 25 [some (.ref 222), some (ax_i x1), some (ax_i x2)] [ax_i x2, ax_i (600 * x1), .ref 309, ax_i x2, .ref 291] rfl ?_
    refine ax_add (pc' := 26) ⟨_, rfl⟩ rfl ?_
    obtain ⟨o1, h⟩ := h
    refine ax_ild (n := 180000) (pc' := 27) ⟨_, rfl⟩ ay_309 (by decide) o1 rfl ?_
    obtain ⟨o2, h⟩ := h
    obtain ⟨V1, eV1⟩ : ∃ W9 : ax_V, W9 = ax_u V 291 x2 (V 309 ((600 * x1) + x2)) := ⟨_, rfl⟩
    have h := h V1 eV1
    have hg1 : ax_g V1 := eV1 ▸ ax_u_g hg (hg _ _)
    refine ax_ist (n := 600) (pc' := 28) ⟨_, rfl⟩ ay_ok ay_291 (by decide) o2 eV1 rfl ?_
    refine ax_mv 1 29 [some (.ref 222), some (ax_i x1), some (ax_i x2)] [.ref 222] rfl ?_
    refine ax_gR (v := .ref 292) (pc' := 32) ⟨_, rfl⟩ fl_12_218 ay_222 rfl rfl ?_
    refine ax_mv 2 34 [some (.ref 222), some (ax_i x1), some (ax_i x2)] [.ref 222, ax_i x2, .ref 292] rfl ?_
    refine ax_gR (v := .ref 291) (pc' := 37) ⟨_, rfl⟩ fl_12_215 ay_222 rfl rfl ?_
    refine ax_mv 1 38 [some (.ref 222), some (ax_i x1), some (ax_i x2)] [ax_i x2, .ref 291, ax_i x2, .ref 292] rfl ?_
    obtain ⟨o3, h⟩ := h
    refine ax_ild (n := 600) (pc' := 39) ⟨_, rfl⟩ ay_291 (by decide) o3 rfl ?_
    obtain ⟨o4, h⟩ := h
    obtain ⟨V2, eV2⟩ : ∃ W9 : ax_V, W9 = ax_u V1 292 x2 (V1 291 x2) := ⟨_, rfl⟩
    have h := h V2 eV2
    have hg2 : ax_g V2 := eV2 ▸ ax_u_g hg1 (hg1 _ _)
    refine ax_ist (n := 600) (pc' := 40) ⟨_, rfl⟩ ay_ok ay_292 (by decide) o4 eV2 rfl ?_
    refine ax_inc (x := x2) (pc' := 43) (L' := [some (.ref 222), some (ax_i x1), some (ax_i (x2 + 1))]) ⟨_, rfl⟩ rfl rfl rfl rfl ?_
    refine ax_mv 1 2 [some (.ref 222), some (ax_i x1), some (ax_i (x2 + 1))] [] rfl ?_
    exact h
theorem r_Model_recall {d : Nat} {V : ax_V} {Φ : ax_V → Prop} {Θ : ax_V → Prop} {x1 : Int} (hg : ax_g V) (hx1 : ax_rg x1) (h : k_Model_recall_2 d x1 0 V Φ Θ) : ax_N ay_lay (d + 1) q_Model_recall [.ref 222, ax_i x1] V Φ Θ := by
  refine ax_T.of (M := m_Model_recall) rfl (Nat.le_of_ble_eq_true rfl) ?_
  refine ax_mv 0 0 [some (.ref 222), some (ax_i x1), none] [] rfl ?_
  refine ax_mv 1 1 [some (.ref 222), some (ax_i x1), none] [ax_i 0] rfl ?_
  refine ax_sti (i := 0) (k := 2) (n := 1) (pc' := 2) (L' := [some (.ref 222), some (ax_i x1), some (ax_i 0)]) ⟨_, rfl⟩ rfl rfl rfl (Nat.le_of_ble_eq_true rfl) rfl rfl ?_
  exact h
abbrev k_Model_isGood_32 (d : Nat) (x1 : Int) (x2 : Int) (x3 : Int) (x4 : Int) (y5 : Option Value) (y6 : Option Value) (s0 : Int) (V : ax_V) (Φ : Int → ax_V → Prop) (Θ : ax_V → Prop) : Prop := ax_R ay_lay ax_t d m_Model_isGood 32 [some (.ref 222), some (ax_i x1), some (ax_i x2), some (ax_i x3), some (ax_i x4), y5, y6] [ax_i s0] V (ax_Ir Φ) Θ
abbrev k_Model_isGood_73 (d : Nat) (x1 : Int) (y2 : Option Value) (x3 : Int) (x4 : Int) (x5 : Int) (x6 : Int) (V : ax_V) (Φ : Int → ax_V → Prop) (Θ : ax_V → Prop) : Prop := ax_R ay_lay ax_t d m_Model_isGood 73 [some (.ref 222), some (ax_i x1), y2, some (ax_i x3), some (ax_i x4), some (ax_i x5), some (ax_i x6)] [] V (ax_Ir Φ) Θ
abbrev k_Model_isGood_166 (d : Nat) (y1 : Option Value) (y2 : Option Value) (y3 : Option Value) (y4 : Option Value) (y5 : Option Value) (x6 : Int) (V : ax_V) (Φ : Int → ax_V → Prop) (Θ : ax_V → Prop) : Prop := ax_R ay_lay ax_t d m_Model_isGood 166 [some (.ref 222), y1, y2, y3, y4, y5, some (ax_i x6)] [] V (ax_Ir Φ) Θ
abbrev k_Model_isGood_199 (d : Nat) (x1 : Int) (y2 : Option Value) (x3 : Int) (y4 : Option Value) (y5 : Option Value) (x6 : Int) (V : ax_V) (Φ : Int → ax_V → Prop) (Θ : ax_V → Prop) : Prop := ax_R ay_lay ax_t d m_Model_isGood 199 [some (.ref 222), some (ax_i x1), y2, some (ax_i x3), y4, y5, some (ax_i x6)] [] V (ax_Ir Φ) Θ
set_option maxRecDepth 20000 in
theorem r_Model_isGood_32 {d : Nat} {V : ax_V} {Φ : Int → ax_V → Prop} {Θ : ax_V → Prop} {x1 : Int} {x2 : Int} {x3 : Int} {x4 : Int} {y5 : Option Value} {y6 : Option Value} {s0 : Int} (hg : ax_g V) (hx1 : ax_rg x1) (hx2 : ax_rg x2) (hx3 : ax_rg x3) (hx4 : ax_rg x4) (hy5 : ax_y y5) (hy6 : ax_y y6) (hs0 : ax_rg s0) (h : ((x3 = -1 → ((s0 = 0 → (0 ≤ (26 * x1) + x2 ∧ (26 * x1) + x2 < 240) ∧ (0 ≤ V 231 ((26 * x1) + x2) ∧ V 231 ((26 * x1) + x2) < 240) ∧ ((V 293 (V 231 ((26 * x1) + x2)) = 1 → Φ 1 V) ∧ (¬ V 293 (V 231 ((26 * x1) + x2)) = 1 → Φ 0 V))) ∧ (¬ s0 = 0 → Φ 0 V))) ∧ (¬ x3 = -1 → k_Model_isGood_73 d x1 (some (ax_i x2)) x3 x4 s0 0 V Φ Θ))) : k_Model_isGood_32 d x1 x2 x3 x4 y5 y6 s0 V Φ Θ := by
  refine ax_sti (i := 0) (k := 5) (n := 2) (pc' := 34) (L' := [some (.ref 222), some (ax_i x1), some (ax_i x2), some (ax_i x3), some (ax_i x4), some (ax_i s0), y6]) ⟨_, rfl⟩ rfl rfl rfl (Nat.le_of_ble_eq_true rfl) rfl rfl ?_
  refine ax_mv 2 36 [some (.ref 222), some (ax_i x1), some (ax_i x2), some (ax_i x3), some (ax_i x4), some (ax_i s0), y6] [ax_i (-1), ax_i x3] rfl ?_
  refine ax_if2 (p1 := 70) (p2 := 39) ⟨_, rfl⟩ (by decide) rfl hx3 (by decide) (fun hc => ?_) (fun hc => ?_)
  · have h := h.2 hc
    refine ax_mv 1 71 [some (.ref 222), some (ax_i x1), some (ax_i x2), some (ax_i x3), some (ax_i x4), some (ax_i s0), y6] [ax_i 0] rfl ?_
    refine ax_sti (i := 0) (k := 6) (n := 2) (pc' := 73) (L' := [some (.ref 222), some (ax_i x1), some (ax_i x2), some (ax_i x3), some (ax_i x4), some (ax_i s0), some (ax_i 0)]) ⟨_, rfl⟩ rfl rfl rfl (Nat.le_of_ble_eq_true rfl) rfl rfl ?_
    exact h
  · have h := h.1 (Classical.not_not.mp hc)
    refine ax_mv 1 41 [some (.ref 222), some (ax_i x1), some (ax_i x2), some (ax_i x3), some (ax_i x4), some (ax_i s0), y6] [ax_i s0] rfl ?_
    refine ax_if (p1 := 68) (p2 := 44) ⟨_, rfl⟩ (by decide) rfl hs0 (fun hc => ?_) (fun hc => ?_)
    · have h := h.2 hc
      refine ax_mv 1 69 [some (.ref 222), some (ax_i x1), some (ax_i x2), some (ax_i x3), some (ax_i x4), some (ax_i s0), y6] [ax_i 0] rfl ?_
      exact ax_iret ⟨_, rfl⟩ rfl (ax_nbv (by decide)) (by decide) hg h
    · have h := h.1 (Classical.not_not.mp hc)
      refine ax_mv 1 45 [some (.ref 222), some (ax_i x1), some (ax_i x2), some (ax_i x3), some (ax_i x4), some (ax_i s0), y6] [.ref 222] rfl ?_
      refine ax_gR (v := .ref 293) (pc' := 48) ⟨_, rfl⟩ fl_12_221 ay_222 rfl rfl ?_
      refine ax_mv 1 49 [some (.ref 222), some (ax_i x1), some (ax_i x2), some (ax_i x3), some (ax_i x4), some (ax_i s0), y6] [.ref 222, .ref 293] rfl ?_
      refine ax_gR (v := .ref 231) (pc' := 52) ⟨_, rfl⟩ fl_12_34 ay_222 rfl rfl ?_
      refine ax_bip (pc' := 54) ⟨_, rfl⟩ (by decide) rfl ?_
      refine ax_mv 1 55 [some (.ref 222), some (ax_i x1), some (ax_i x2), some (ax_i x3), some (ax_i x4), some (ax_i s0), y6] [ax_i x1, ax_i 26, .ref 231, .ref 293] rfl ?_
      refine ax_mul (pc' := 56) ⟨_, rfl⟩ rfl ?_
      refine ax_mv 1 57 [some (.ref 222), some (ax_i x1), some (ax_i x2), some (ax_i x3), some (ax_i x4), some (ax_i s0), y6] [ax_i x2, ax_i (26 * x1), .ref 231, .ref 293] rfl ?_
      refine ax_add (pc' := 58) ⟨_, rfl⟩ rfl ?_
      obtain ⟨o1, h⟩ := h
      refine ax_ild (n := 240) (pc' := 59) ⟨_, rfl⟩ ay_231 (by decide) o1 rfl ?_
      obtain ⟨o2, h⟩ := h
      refine ax_ild (n := 240) (pc' := 60) ⟨_, rfl⟩ ay_293 (by decide) o2 rfl ?_
      refine ax_mv 1 61 [some (.ref 222), some (ax_i x1), some (ax_i x2), some (ax_i x3), some (ax_i x4), some (ax_i s0), y6] [ax_i 1, ax_i (V 293 (V 231 ((26 * x1) + x2)))] rfl ?_
      refine ax_if2 (p1 := 68) (p2 := 64) ⟨_, rfl⟩ (by decide) rfl (hg _ _) (by decide) (fun hc => ?_) (fun hc => ?_)
      · have h := h.2 hc
        refine ax_mv 1 69 [some (.ref 222), some (ax_i x1), some (ax_i x2), some (ax_i x3), some (ax_i x4), some (ax_i s0), y6] [ax_i 0] rfl ?_
        exact ax_iret ⟨_, rfl⟩ rfl (ax_nbv (by decide)) (by decide) hg h
      · have h := h.1 (Classical.not_not.mp hc)
        refine ax_mv 2 69 [some (.ref 222), some (ax_i x1), some (ax_i x2), some (ax_i x3), some (ax_i x4), some (ax_i s0), y6] [ax_i 1] rfl ?_
        exact ax_iret ⟨_, rfl⟩ rfl (ax_nbv (by decide)) (by decide) hg h
set_option maxRecDepth 20000 in
theorem r_Model_isGood_73 {d : Nat} {V : ax_V} {Φ : Int → ax_V → Prop} {Θ : ax_V → Prop} {x1 : Int} {y2 : Option Value} {x3 : Int} {x4 : Int} {x5 : Int} {x6 : Int} (hg : ax_g V) (hx1 : ax_rg x1) (hy2 : ax_y y2) (hx3 : ax_rg x3) (hx4 : ax_rg x4) (hx5 : ax_rg x5) (hx6 : ax_rg x6) (h : (0 ≤ x1 ∧ x1 < 9) ∧ ((V 228 x1 ≤ x6 → ax_N ay_lay d q_Model_feed [.ref 222, ax_i x3, ax_i x4] V (fun V1 => (∀ V2, V2 = ax_u V1 222 101 (-1) → (0 ≤ x1 ∧ x1 < 9) ∧ ax_N ay_lay d q_Model_tickNode [.ref 222, ax_i 0, ax_i x3, ax_i (V2 288 x1)] V2 (fun V3 => ((V3 222 101 = -1 → ((x5 = 0 → ((x5 = 0 → k_Model_isGood_199 d x1 y2 x3 (some (ax_i x4)) (some (ax_i x5)) 0 V3 Φ Θ) ∧ (¬ x5 = 0 → k_Model_isGood_166 d (some (ax_i x1)) y2 (some (ax_i x3)) (some (ax_i x4)) (some (ax_i x5)) 0 V3 Φ Θ))) ∧ (¬ x5 = 0 → Φ 0 V3))) ∧ (¬ V3 222 101 = -1 → ((x5 = 1 → ((x5 = 0 → k_Model_isGood_199 d x1 y2 x3 (some (ax_i x4)) (some (ax_i x5)) 0 V3 Φ Θ) ∧ (¬ x5 = 0 → k_Model_isGood_166 d (some (ax_i x1)) y2 (some (ax_i x3)) (some (ax_i x4)) (some (ax_i x5)) 0 V3 Φ Θ))) ∧ (¬ x5 = 1 → Φ 0 V3))))) Θ)) Θ) ∧ (x6 < V 228 x1 → (0 ≤ (26 * x1) + x6 ∧ (26 * x1) + x6 < 240) ∧ (0 ≤ V 231 ((26 * x1) + x6) ∧ V 231 ((26 * x1) + x6) < 240) ∧ (0 ≤ x6 ∧ x6 < 26) ∧ (∀ V4, V4 = ax_u V 313 x6 (V 293 (V 231 ((26 * x1) + x6))) → k_Model_isGood_73 d x1 y2 x3 x4 x5 (x6 + 1) V4 Φ Θ)))) : k_Model_isGood_73 d x1 y2 x3 x4 x5 x6 V Φ Θ := by
  refine ax_mv 2 76 [some (.ref 222), some (ax_i x1), y2, some (ax_i x3), some (ax_i x4), some (ax_i x5), some (ax_i x6)] [.ref 222, ax_i x6] rfl ?_
  refine ax_gR (v := .ref 228) (pc' := 79) ⟨_, rfl⟩ fl_12_25 ay_222 rfl rfl ?_
  refine ax_mv 1 80 [some (.ref 222), some (ax_i x1), y2, some (ax_i x3), some (ax_i x4), some (ax_i x5), some (ax_i x6)] [ax_i x1, .ref 228, ax_i x6] rfl ?_
  obtain ⟨o3, h⟩ := h
  refine ax_ild (n := 9) (pc' := 81) ⟨_, rfl⟩ ay_228 (by decide) o3 rfl ?_
  refine ax_if2 (p1 := 114) (p2 := 84) ⟨_, rfl⟩ (by decide) rfl hx6 (hg _ _) (fun hc => ?_) (fun hc => ?_)
  · have h := h.1 hc
    refine ax_mv 3 118 [some (.ref 222), some (ax_i x1), y2, some (ax_i x3), some (ax_i x4), some (ax_i x5), some (ax_i x6)] [ax_i x4, ax_i x3, .ref 222] rfl ?_
    refine ax_callN (pc' := 121) ⟨_, rfl⟩ ml_12_691 (rest := []) rfl (fun ss hs => ⟨_, _, ay_222 ss hs⟩) (Nat.le_of_ble_eq_true rfl) rfl rfl h (fun V1 hg1 h => ?_)
    refine ax_mv 2 123 [some (.ref 222), some (ax_i x1), y2, some (ax_i x3), some (ax_i x4), some (ax_i x5), some (ax_i x6)] [ax_i (-1), .ref 222] rfl ?_
    obtain ⟨V2, eV2⟩ : ∃ W9 : ax_V, W9 = ax_u V1 222 101 (-1) := ⟨_, rfl⟩
    have h := h V2 eV2
    have hg2 : ax_g V2 := eV2 ▸ ax_u_g hg1 (by decide)
    refine ax_pI (kI := 101) (pc' := 126) ⟨_, rfl⟩ fl_12_622 ay_ok ay_222 rfl rfl rfl rfl eV2 rfl ?_
    refine ax_mv 4 130 [some (.ref 222), some (ax_i x1), y2, some (ax_i x3), some (ax_i x4), some (ax_i x5), some (ax_i x6)] [.ref 222, ax_i x3, ax_i 0, .ref 222] rfl ?_
    refine ax_gR (v := .ref 288) (pc' := 133) ⟨_, rfl⟩ fl_12_206 ay_222 rfl rfl ?_
    refine ax_mv 1 134 [some (.ref 222), some (ax_i x1), y2, some (ax_i x3), some (ax_i x4), some (ax_i x5), some (ax_i x6)] [ax_i x1, .ref 288, ax_i x3, ax_i 0, .ref 222] rfl ?_
    obtain ⟨o4, h⟩ := h
    refine ax_ild (n := 9) (pc' := 135) ⟨_, rfl⟩ ay_288 (by decide) o4 rfl ?_
    refine ax_callN (pc' := 138) ⟨_, rfl⟩ ml_12_642 (rest := []) rfl (fun ss hs => ⟨_, _, ay_222 ss hs⟩) (Nat.le_of_ble_eq_true rfl) rfl rfl h (fun V3 hg3 h => ?_)
    refine ax_mv 2 141 [some (.ref 222), some (ax_i x1), y2, some (ax_i x3), some (ax_i x4), some (ax_i x5), some (ax_i x6)] [.ref 222, ax_i x5] rfl ?_
    refine ax_gI (kI := 101) (pc' := 144) ⟨_, rfl⟩ fl_12_622 ay_222 rfl rfl rfl ?_
    refine ax_mv 1 145 [some (.ref 222), some (ax_i x1), y2, some (ax_i x3), some (ax_i x4), some (ax_i x5), some (ax_i x6)] [ax_i (-1), ax_i (V3 222 101), ax_i x5] rfl ?_
    refine ax_if2 (p1 := 152) (p2 := 148) ⟨_, rfl⟩ (by decide) rfl (hg3 _ _) (by decide) (fun hc => ?_) (fun hc => ?_)
    · have h := h.1 hc
      refine ax_mv 1 153 [some (.ref 222), some (ax_i x1), y2, some (ax_i x3), some (ax_i x4), some (ax_i x5), some (ax_i x6)] [ax_i 0, ax_i x5] rfl ?_
      refine ax_if2 (p1 := 158) (p2 := 156) ⟨_, rfl⟩ (by decide) rfl hx5 (by decide) (fun hc => ?_) (fun hc => ?_)
      · have h := h.1 hc
        refine ax_mv 1 160 [some (.ref 222), some (ax_i x1), y2, some (ax_i x3), some (ax_i x4), some (ax_i x5), some (ax_i x6)] [ax_i x5] rfl ?_
        refine ax_if (p1 := 196) (p2 := 163) ⟨_, rfl⟩ (by decide) rfl hx5 (fun hc => ?_) (fun hc => ?_)
        · have h := h.1 hc
          refine ax_mv 1 197 [some (.ref 222), some (ax_i x1), y2, some (ax_i x3), some (ax_i x4), some (ax_i x5), some (ax_i x6)] [ax_i 0] rfl ?_
          refine ax_sti (i := 0) (k := 6) (n := 2) (pc' := 199) (L' := [some (.ref 222), some (ax_i x1), y2, some (ax_i x3), some (ax_i x4), some (ax_i x5), some (ax_i 0)]) ⟨_, rfl⟩ rfl rfl rfl (Nat.le_of_ble_eq_true rfl) rfl rfl ?_
          exact h
        · have h := h.2 hc
          refine ax_mv 1 164 [some (.ref 222), some (ax_i x1), y2, some (ax_i x3), some (ax_i x4), some (ax_i x5), some (ax_i x6)] [ax_i 0] rfl ?_
          refine ax_sti (i := 0) (k := 6) (n := 2) (pc' := 166) (L' := [some (.ref 222), some (ax_i x1), y2, some (ax_i x3), some (ax_i x4), some (ax_i x5), some (ax_i 0)]) ⟨_, rfl⟩ rfl rfl rfl (Nat.le_of_ble_eq_true rfl) rfl rfl ?_
          exact h
      · have h := h.2 hc
        refine ax_mv 1 157 [some (.ref 222), some (ax_i x1), y2, some (ax_i x3), some (ax_i x4), some (ax_i x5), some (ax_i x6)] [ax_i 0] rfl ?_
        exact ax_iret ⟨_, rfl⟩ rfl (ax_nbv (by decide)) (by decide) hg3 h
    · have h := h.2 hc
      refine ax_mv 2 153 [some (.ref 222), some (ax_i x1), y2, some (ax_i x3), some (ax_i x4), some (ax_i x5), some (ax_i x6)] [ax_i 1, ax_i x5] rfl ?_
      refine ax_if2 (p1 := 158) (p2 := 156) ⟨_, rfl⟩ (by decide) rfl hx5 (by decide) (fun hc => ?_) (fun hc => ?_)
      · have h := h.1 hc
        refine ax_mv 1 160 [some (.ref 222), some (ax_i x1), y2, some (ax_i x3), some (ax_i x4), some (ax_i x5), some (ax_i x6)] [ax_i x5] rfl ?_
        refine ax_if (p1 := 196) (p2 := 163) ⟨_, rfl⟩ (by decide) rfl hx5 (fun hc => ?_) (fun hc => ?_)
        · have h := h.1 hc
          refine ax_mv 1 197 [some (.ref 222), some (ax_i x1), y2, some (ax_i x3), some (ax_i x4), some (ax_i x5), some (ax_i x6)] [ax_i 0] rfl ?_
          refine ax_sti (i := 0) (k := 6) (n := 2) (pc' := 199) (L' := [some (.ref 222), some (ax_i x1), y2, some (ax_i x3), some (ax_i x4), some (ax_i x5), some (ax_i 0)]) ⟨_, rfl⟩ rfl rfl rfl (Nat.le_of_ble_eq_true rfl) rfl rfl ?_
          exact h
        · have h := h.2 hc
          refine ax_mv 1 164 [some (.ref 222), some (ax_i x1), y2, some (ax_i x3), some (ax_i x4), some (ax_i x5), some (ax_i x6)] [ax_i 0] rfl ?_
          refine ax_sti (i := 0) (k := 6) (n := 2) (pc' := 166) (L' := [some (.ref 222), some (ax_i x1), y2, some (ax_i x3), some (ax_i x4), some (ax_i x5), some (ax_i 0)]) ⟨_, rfl⟩ rfl rfl rfl (Nat.le_of_ble_eq_true rfl) rfl rfl ?_
          exact h
      · have h := h.2 hc
        refine ax_mv 1 157 [some (.ref 222), some (ax_i x1), y2, some (ax_i x3), some (ax_i x4), some (ax_i x5), some (ax_i x6)] [ax_i 0] rfl ?_
        exact ax_iret ⟨_, rfl⟩ rfl (ax_nbv (by decide)) (by decide) hg3 h
  · have h := h.2 (Int.not_le.mp hc)
    refine ax_mv 1 85 [some (.ref 222), some (ax_i x1), y2, some (ax_i x3), some (ax_i x4), some (ax_i x5), some (ax_i x6)] [.ref 222] rfl ?_
    refine ax_gR (v := .ref 313) (pc' := 88) ⟨_, rfl⟩ fl_12_282 ay_222 rfl rfl ?_
    refine ax_mv 2 91 [some (.ref 222), some (ax_i x1), y2, some (ax_i x3), some (ax_i x4), some (ax_i x5), some (ax_i x6)] [.ref 222, ax_i x6, .ref 313] rfl ?_
    refine ax_gR (v := .ref 293) (pc' := 94) ⟨_, rfl⟩ fl_12_221 ay_222 rfl rfl ?_
    refine ax_mv 1 95 [some (.ref 222), some (ax_i x1), y2, some (ax_i x3), some (ax_i x4), some (ax_i x5), some (ax_i x6)] [.ref 222, .ref 293, ax_i x6, .ref 313] rfl ?_
    refine ax_gR (v := .ref 231) (pc' := 98) ⟨_, rfl⟩ fl_12_34 ay_222 rfl rfl ?_
    refine ax_bip (pc' := 100) ⟨_, rfl⟩ (by decide) rfl ?_
    refine ax_mv 1 101 [some (.ref 222), some (ax_i x1), y2, some (ax_i x3), some (ax_i x4), some (ax_i x5), some (ax_i x6)] [ax_i x1, ax_i 26, .ref 231, .ref 293, ax_i x6, .ref 313] rfl ?_
    refine ax_mul (pc' := 102) ⟨_, rfl⟩ rfl ?_
    refine ax_mv 1 104 [some (.ref 222), some (ax_i x1), y2, some (ax_i x3), some (ax_i x4), some (ax_i x5), some (ax_i x6)] [ax_i x6, ax_i (26 * x1), .ref 231, .ref 293, ax_i x6, .ref 313] rfl ?_
    refine ax_add (pc' := 105) ⟨_, rfl⟩ rfl ?_
    obtain ⟨o5, h⟩ := h
    refine ax_ild (n := 240) (pc' := 106) ⟨_, rfl⟩ ay_231 (by decide) o5 rfl ?_
    obtain ⟨o6, h⟩ := h
    refine ax_ild (n := 240) (pc' := 107) ⟨_, rfl⟩ ay_293 (by decide) o6 rfl ?_
    obtain ⟨o7, h⟩ := h
    obtain ⟨V4, eV4⟩ : ∃ W9 : ax_V, W9 = ax_u V 313 x6 (V 293 (V 231 ((26 * x1) + x6))) := ⟨_, rfl⟩
    have h := h V4 eV4
    have hg4 : ax_g V4 := eV4 ▸ ax_u_g hg (hg _ _)
    refine ax_ist (n := 26) (pc' := 108) ⟨_, rfl⟩ ay_ok ay_313 (by decide) o7 eV4 rfl ?_
    refine ax_inc (x := x6) (pc' := 111) (L' := [some (.ref 222), some (ax_i x1), y2, some (ax_i x3), some (ax_i x4), some (ax_i x5), some (ax_i (x6 + 1))]) ⟨_, rfl⟩ rfl rfl rfl rfl ?_
    refine ax_mv 1 73 [some (.ref 222), some (ax_i x1), y2, some (ax_i x3), some (ax_i x4), some (ax_i x5), some (ax_i (x6 + 1))] [] rfl ?_
    exact h
set_option maxRecDepth 20000 in
theorem r_Model_isGood_166 {d : Nat} {V : ax_V} {Φ : Int → ax_V → Prop} {Θ : ax_V → Prop} {y1 : Option Value} {y2 : Option Value} {y3 : Option Value} {y4 : Option Value} {y5 : Option Value} {x6 : Int} (hg : ax_g V) (hy1 : ax_y y1) (hy2 : ax_y y2) (hy3 : ax_y y3) (hy4 : ax_y y4) (hy5 : ax_y y5) (hx6 : ax_rg x6) (h : ((V 222 116 ≤ x6 → (∀ V1, V1 = ax_u V 222 123 1 → Φ 1 V1)) ∧ (x6 < V 222 116 → (0 ≤ x6 ∧ x6 < 600) ∧ (∀ V2, V2 = ax_u V 292 x6 (-1) → k_Model_isGood_166 d y1 y2 y3 y4 y5 (x6 + 1) V2 Φ Θ)))) : k_Model_isGood_166 d y1 y2 y3 y4 y5 x6 V Φ Θ := by
  refine ax_mv 2 169 [some (.ref 222), y1, y2, y3, y4, y5, some (ax_i x6)] [.ref 222, ax_i x6] rfl ?_
  refine ax_gI (kI := 116) (pc' := 172) ⟨_, rfl⟩ fl_12_685 ay_222 rfl rfl rfl ?_
  refine ax_if2 (p1 := 189) (p2 := 175) ⟨_, rfl⟩ (by decide) rfl hx6 (hg _ _) (fun hc => ?_) (fun hc => ?_)
  · have h := h.1 hc
    refine ax_mv 2 191 [some (.ref 222), y1, y2, y3, y4, y5, some (ax_i x6)] [ax_i 1, .ref 222] rfl ?_
    obtain ⟨V1, eV1⟩ : ∃ W9 : ax_V, W9 = ax_u V 222 123 1 := ⟨_, rfl⟩
    have h := h V1 eV1
    have hg1 : ax_g V1 := eV1 ▸ ax_u_g hg (by decide)
    refine ax_pI (kI := 123) (pc' := 194) ⟨_, rfl⟩ fl_12_694 ay_ok ay_222 rfl rfl (ax_nbv (by decide)) rfl eV1 rfl ?_
    refine ax_mv 1 195 [some (.ref 222), y1, y2, y3, y4, y5, some (ax_i x6)] [ax_i 1] rfl ?_
    exact ax_iret ⟨_, rfl⟩ rfl (ax_nbv (by decide)) (by decide) hg1 h
  · have h := h.2 (Int.not_le.mp hc)
    refine ax_mv 1 176 [some (.ref 222), y1, y2, y3, y4, y5, some (ax_i x6)] [.ref 222] rfl ?_
    refine ax_gR (v := .ref 292) (pc' := 179) ⟨_, rfl⟩ fl_12_218 ay_222 rfl rfl ?_
    refine ax_mv 2 182 [some (.ref 222), y1, y2, y3, y4, y5, some (ax_i x6)] [ax_i (-1), ax_i x6, .ref 292] rfl ?_
    obtain ⟨o8, h⟩ := h
    obtain ⟨V2, eV2⟩ : ∃ W9 : ax_V, W9 = ax_u V 292 x6 (-1) := ⟨_, rfl⟩
    have h := h V2 eV2
    have hg2 : ax_g V2 := eV2 ▸ ax_u_g hg (by decide)
    refine ax_ist (n := 600) (pc' := 183) ⟨_, rfl⟩ ay_ok ay_292 (by decide) o8 eV2 rfl ?_
    refine ax_inc (x := x6) (pc' := 186) (L' := [some (.ref 222), y1, y2, y3, y4, y5, some (ax_i (x6 + 1))]) ⟨_, rfl⟩ rfl (ax_kill_y (k := 5) rfl hy5) rfl rfl ?_
    refine ax_mv 1 166 [some (.ref 222), y1, y2, y3, y4, y5, some (ax_i (x6 + 1))] [] rfl ?_
    exact h
set_option maxRecDepth 20000 in
theorem r_Model_isGood_199 {d : Nat} {V : ax_V} {Φ : Int → ax_V → Prop} {Θ : ax_V → Prop} {x1 : Int} {y2 : Option Value} {x3 : Int} {y4 : Option Value} {y5 : Option Value} {x6 : Int} (hg : ax_g V) (hx1 : ax_rg x1) (hy2 : ax_y y2) (hx3 : ax_rg x3) (hy4 : ax_y y4) (hy5 : ax_y y5) (hx6 : ax_rg x6) (h : (0 ≤ x1 ∧ x1 < 9) ∧ ((V 228 x1 ≤ x6 → Φ 1 V) ∧ (x6 < V 228 x1 → (0 ≤ x6 ∧ x6 < 26) ∧ (0 ≤ (26 * x3) + x6 ∧ (26 * x3) + x6 < 240) ∧ (0 ≤ V 231 ((26 * x3) + x6) ∧ V 231 ((26 * x3) + x6) < 240) ∧ ((V 313 x6 = V 293 (V 231 ((26 * x3) + x6)) → k_Model_isGood_199 d x1 y2 x3 y4 y5 (x6 + 1) V Φ Θ) ∧ (¬ V 313 x6 = V 293 (V 231 ((26 * x3) + x6)) → Φ 0 V))))) : k_Model_isGood_199 d x1 y2 x3 y4 y5 x6 V Φ Θ := by
  refine ax_mv 2 202 [some (.ref 222), some (ax_i x1), y2, some (ax_i x3), y4, y5, some (ax_i x6)] [.ref 222, ax_i x6] rfl ?_
  refine ax_gR (v := .ref 228) (pc' := 205) ⟨_, rfl⟩ fl_12_25 ay_222 rfl rfl ?_
  refine ax_mv 1 206 [some (.ref 222), some (ax_i x1), y2, some (ax_i x3), y4, y5, some (ax_i x6)] [ax_i x1, .ref 228, ax_i x6] rfl ?_
  obtain ⟨o9, h⟩ := h
  refine ax_ild (n := 9) (pc' := 207) ⟨_, rfl⟩ ay_228 (by decide) o9 rfl ?_
  refine ax_if2 (p1 := 245) (p2 := 210) ⟨_, rfl⟩ (by decide) rfl hx6 (hg _ _) (fun hc => ?_) (fun hc => ?_)
  · have h := h.1 hc
    refine ax_mv 1 246 [some (.ref 222), some (ax_i x1), y2, some (ax_i x3), y4, y5, some (ax_i x6)] [ax_i 1] rfl ?_
    exact ax_iret ⟨_, rfl⟩ rfl (ax_nbv (by decide)) (by decide) hg h
  · have h := h.2 (Int.not_le.mp hc)
    refine ax_mv 1 211 [some (.ref 222), some (ax_i x1), y2, some (ax_i x3), y4, y5, some (ax_i x6)] [.ref 222] rfl ?_
    refine ax_gR (v := .ref 313) (pc' := 214) ⟨_, rfl⟩ fl_12_282 ay_222 rfl rfl ?_
    refine ax_mv 1 216 [some (.ref 222), some (ax_i x1), y2, some (ax_i x3), y4, y5, some (ax_i x6)] [ax_i x6, .ref 313] rfl ?_
    obtain ⟨o10, h⟩ := h
    refine ax_ild (n := 26) (pc' := 217) ⟨_, rfl⟩ ay_313 (by decide) o10 rfl ?_
    refine ax_mv 1 218 [some (.ref 222), some (ax_i x1), y2, some (ax_i x3), y4, y5, some (ax_i x6)] [.ref 222, ax_i (V 313 x6)] rfl ?_
    refine ax_gR (v := .ref 293) (pc' := 221) ⟨_, rfl⟩ fl_12_221 ay_222 rfl rfl ?_
    refine ax_mv 1 222 [some (.ref 222), some (ax_i x1), y2, some (ax_i x3), y4, y5, some (ax_i x6)] [.ref 222, .ref 293, ax_i (V 313 x6)] rfl ?_
    refine ax_gR (v := .ref 231) (pc' := 225) ⟨_, rfl⟩ fl_12_34 ay_222 rfl rfl ?_
    refine ax_bip (pc' := 227) ⟨_, rfl⟩ (by decide) rfl ?_
    refine ax_mv 1 228 [some (.ref 222), some (ax_i x1), y2, some (ax_i x3), y4, y5, some (ax_i x6)] [ax_i x3, ax_i 26, .ref 231, .ref 293, ax_i (V 313 x6)] rfl ?_
    refine ax_mul (pc' := 229) ⟨_, rfl⟩ rfl ?_
    refine ax_mv 1 231 [some (.ref 222), some (ax_i x1), y2, some (ax_i x3), y4, y5, some (ax_i x6)] [ax_i x6, ax_i (26 * x3), .ref 231, .ref 293, ax_i (V 313 x6)] rfl ?_
    refine ax_add (pc' := 232) ⟨_, rfl⟩ rfl ?_
    obtain ⟨o11, h⟩ := h
    refine ax_ild (n := 240) (pc' := 233) ⟨_, rfl⟩ ay_231 (by decide) o11 rfl ?_
    obtain ⟨o12, h⟩ := h
    refine ax_ild (n := 240) (pc' := 234) ⟨_, rfl⟩ ay_293 (by decide) o12 rfl ?_
    refine ax_if2 (p1 := 239) (p2 := 237) ⟨_, rfl⟩ (by decide) rfl (hg _ _) (hg _ _) (fun hc => ?_) (fun hc => ?_)
    · have h := h.1 hc
      refine ax_inc (x := x6) (pc' := 242) (L' := [some (.ref 222), some (ax_i x1), y2, some (ax_i x3), y4, y5, some (ax_i (x6 + 1))]) ⟨_, rfl⟩ rfl (ax_kill_y (k := 5) rfl hy5) rfl rfl ?_
      refine ax_mv 1 199 [some (.ref 222), some (ax_i x1), y2, some (ax_i x3), y4, y5, some (ax_i (x6 + 1))] [] rfl ?_
      exact h
    · have h := h.2 hc
      refine ax_mv 1 238 [some (.ref 222), some (ax_i x1), y2, some (ax_i x3), y4, y5, some (ax_i x6)] [ax_i 0] rfl ?_
      exact ax_iret ⟨_, rfl⟩ rfl (ax_nbv (by decide)) (by decide) hg h
set_option maxRecDepth 20000 in
theorem r_Model_isGood {d : Nat} {V : ax_V} {Φ : Int → ax_V → Prop} {Θ : ax_V → Prop} {x1 : Int} {x2 : Int} {x3 : Int} {x4 : Int} (hg : ax_g V) (hx1 : ax_rg x1) (hx2 : ax_rg x2) (hx3 : ax_rg x3) (hx4 : ax_rg x4) (h : ax_N ay_lay d q_Model_feed [.ref 222, ax_i x1, ax_i x4] V (fun V1 => (∀ V2, V2 = ax_u V1 222 101 (-1) → ax_N ay_lay d q_Model_tickNode [.ref 222, ax_i 0, ax_i x1, ax_i 0] V2 (fun V3 => ((V3 222 101 = -1 → k_Model_isGood_32 d x1 x2 x3 x4 none none 0 V3 Φ Θ) ∧ (¬ V3 222 101 = -1 → k_Model_isGood_32 d x1 x2 x3 x4 none none 1 V3 Φ Θ))) Θ)) Θ) : ax_I ay_lay (d + 1) q_Model_isGood [.ref 222, ax_i x1, ax_i x2, ax_i x3, ax_i x4] V Φ Θ := by
  refine ax_T.of (M := m_Model_isGood) rfl (Nat.le_of_ble_eq_true rfl) ?_
  refine ax_mv 0 0 [some (.ref 222), some (ax_i x1), some (ax_i x2), some (ax_i x3), some (ax_i x4), none, none] [] rfl ?_
  refine ax_mv 3 4 [some (.ref 222), some (ax_i x1), some (ax_i x2), some (ax_i x3), some (ax_i x4), none, none] [ax_i x4, ax_i x1, .ref 222] rfl ?_
  refine ax_callN (pc' := 7) ⟨_, rfl⟩ ml_12_691 (rest := []) rfl (fun ss hs => ⟨_, _, ay_222 ss hs⟩) (Nat.le_of_ble_eq_true rfl) rfl rfl h (fun V1 hg1 h => ?_)
  refine ax_mv 2 9 [some (.ref 222), some (ax_i x1), some (ax_i x2), some (ax_i x3), some (ax_i x4), none, none] [ax_i (-1), .ref 222] rfl ?_
  obtain ⟨V2, eV2⟩ : ∃ W9 : ax_V, W9 = ax_u V1 222 101 (-1) := ⟨_, rfl⟩
  have h := h V2 eV2
  have hg2 : ax_g V2 := eV2 ▸ ax_u_g hg1 (by decide)
  refine ax_pI (kI := 101) (pc' := 12) ⟨_, rfl⟩ fl_12_622 ay_ok ay_222 rfl rfl rfl rfl eV2 rfl ?_
  refine ax_mv 4 16 [some (.ref 222), some (ax_i x1), some (ax_i x2), some (ax_i x3), some (ax_i x4), none, none] [ax_i 0, ax_i x1, ax_i 0, .ref 222] rfl ?_
  refine ax_callN (pc' := 19) ⟨_, rfl⟩ ml_12_642 (rest := []) rfl (fun ss hs => ⟨_, _, ay_222 ss hs⟩) (Nat.le_of_ble_eq_true rfl) rfl rfl h (fun V3 hg3 h => ?_)
  refine ax_mv 1 20 [some (.ref 222), some (ax_i x1), some (ax_i x2), some (ax_i x3), some (ax_i x4), none, none] [.ref 222] rfl ?_
  refine ax_gI (kI := 101) (pc' := 23) ⟨_, rfl⟩ fl_12_622 ay_222 rfl rfl rfl ?_
  refine ax_mv 1 24 [some (.ref 222), some (ax_i x1), some (ax_i x2), some (ax_i x3), some (ax_i x4), none, none] [ax_i (-1), ax_i (V3 222 101)] rfl ?_
  refine ax_if2 (p1 := 31) (p2 := 27) ⟨_, rfl⟩ (by decide) rfl (hg3 _ _) (by decide) (fun hc => ?_) (fun hc => ?_)
  · have h := h.1 hc
    refine ax_mv 1 32 [some (.ref 222), some (ax_i x1), some (ax_i x2), some (ax_i x3), some (ax_i x4), none, none] [ax_i 0] rfl ?_
    exact h
  · have h := h.2 hc
    refine ax_mv 2 32 [some (.ref 222), some (ax_i x1), some (ax_i x2), some (ax_i x3), some (ax_i x4), none, none] [ax_i 1] rfl ?_
    exact h
abbrev k_Model_feed_2 (d : Nat) (x1 : Int) (x2 : Int) (x3 : Int) (V : ax_V) (Φ : ax_V → Prop) (Θ : ax_V → Prop) : Prop := ax_R ay_lay ax_t d m_Model_feed 2 [some (.ref 222), some (ax_i x1), some (ax_i x2), some (ax_i x3)] [] V (ax_Nr Φ) Θ
theorem r_Model_feed_2 {d : Nat} {V : ax_V} {Φ : ax_V → Prop} {Θ : ax_V → Prop} {x1 : Int} {x2 : Int} {x3 : Int} (hg : ax_g V) (hx1 : ax_rg x1) (hx2 : ax_rg x2) (hx3 : ax_rg x3) (h : (0 ≤ x1 ∧ x1 < 9) ∧ ((V 227 x1 ≤ x3 → Φ V) ∧ (x3 < V 227 x1 → (0 ≤ (26 * x1) + x3 ∧ (26 * x1) + x3 < 240) ∧ (0 ≤ V 230 ((26 * x1) + x3) ∧ V 230 ((26 * x1) + x3) < 240) ∧ (∀ V1, V1 = ax_u V 293 (V 230 ((26 * x1) + x3)) (ax_and (ax_shr x2 x3) 1) → k_Model_feed_2 d x1 x2 (x3 + 1) V1 Φ Θ)))) : k_Model_feed_2 d x1 x2 x3 V Φ Θ := by
  refine ax_mv 2 4 [some (.ref 222), some (ax_i x1), some (ax_i x2), some (ax_i x3)] [.ref 222, ax_i x3] rfl ?_
  refine ax_gR (v := .ref 227) (pc' := 7) ⟨_, rfl⟩ fl_12_22 ay_222 rfl rfl ?_
  refine ax_mv 1 8 [some (.ref 222), some (ax_i x1), some (ax_i x2), some (ax_i x3)] [ax_i x1, .ref 227, ax_i x3] rfl ?_
  obtain ⟨o1, h⟩ := h
  refine ax_ild (n := 9) (pc' := 9) ⟨_, rfl⟩ ay_227 (by decide) o1 rfl ?_
  refine ax_if2 (p1 := 39) (p2 := 12) ⟨_, rfl⟩ (by decide) rfl hx3 (hg _ _) (fun hc => ?_) (fun hc => ?_)
  · have h := h.1 hc
    exact ax_nret ⟨_, rfl⟩ rfl hg h
  · have h := h.2 (Int.not_le.mp hc)
    refine ax_mv 1 13 [some (.ref 222), some (ax_i x1), some (ax_i x2), some (ax_i x3)] [.ref 222] rfl ?_
    refine ax_gR (v := .ref 293) (pc' := 16) ⟨_, rfl⟩ fl_12_221 ay_222 rfl rfl ?_
    refine ax_mv 1 17 [some (.ref 222), some (ax_i x1), some (ax_i x2), some (ax_i x3)] [.ref 222, .ref 293] rfl ?_
    refine ax_gR (v := .ref 230) (pc' := 20) ⟨_, rfl⟩ fl_12_31 ay_222 rfl rfl ?_
    refine ax_bip (pc' := 22) ⟨_, rfl⟩ (by decide) rfl ?_
    refine ax_mv 1 23 [some (.ref 222), some (ax_i x1), some (ax_i x2), some (ax_i x3)] [ax_i x1, ax_i 26, .ref 230, .ref 293] rfl ?_
    refine ax_mul (pc' := 24) ⟨_, rfl⟩ rfl ?_
    refine ax_mv 1 25 [some (.ref 222), some (ax_i x1), some (ax_i x2), some (ax_i x3)] [ax_i x3, ax_i (26 * x1), .ref 230, .ref 293] rfl ?_
    refine ax_add (pc' := 26) ⟨_, rfl⟩ rfl ?_
    obtain ⟨o2, h⟩ := h
    refine ax_ild (n := 240) (pc' := 27) ⟨_, rfl⟩ ay_230 (by decide) o2 rfl ?_
    refine ax_mv 2 29 [some (.ref 222), some (ax_i x1), some (ax_i x2), some (ax_i x3)] [ax_i x3, ax_i x2, ax_i (V 230 ((26 * x1) + x3)), .ref 293] rfl ?_
    refine ax_rshr (pc' := 30) ⟨_, rfl⟩ rfl ?_
    refine ax_mv 1 31 [some (.ref 222), some (ax_i x1), some (ax_i x2), some (ax_i x3)] [ax_i 1, ax_i (ax_shr x2 x3), ax_i (V 230 ((26 * x1) + x3)), .ref 293] rfl ?_
    refine ax_rand (pc' := 32) ⟨_, rfl⟩ rfl ?_
    obtain ⟨o3, h⟩ := h
    obtain ⟨V1, eV1⟩ : ∃ W9 : ax_V, W9 = ax_u V 293 (V 230 ((26 * x1) + x3)) (ax_and (ax_shr x2 x3) 1) := ⟨_, rfl⟩
    have h := h V1 eV1
    have hg1 : ax_g V1 := eV1 ▸ ax_u_g hg (ax_rg_of _)
    refine ax_ist (n := 240) (pc' := 33) ⟨_, rfl⟩ ay_ok ay_293 (by decide) o3 eV1 rfl ?_
    refine ax_inc (x := x3) (pc' := 36) (L' := [some (.ref 222), some (ax_i x1), some (ax_i x2), some (ax_i (x3 + 1))]) ⟨_, rfl⟩ rfl rfl rfl rfl ?_
    refine ax_mv 1 2 [some (.ref 222), some (ax_i x1), some (ax_i x2), some (ax_i (x3 + 1))] [] rfl ?_
    exact h
theorem r_Model_feed {d : Nat} {V : ax_V} {Φ : ax_V → Prop} {Θ : ax_V → Prop} {x1 : Int} {x2 : Int} (hg : ax_g V) (hx1 : ax_rg x1) (hx2 : ax_rg x2) (h : k_Model_feed_2 d x1 x2 0 V Φ Θ) : ax_N ay_lay (d + 1) q_Model_feed [.ref 222, ax_i x1, ax_i x2] V Φ Θ := by
  refine ax_T.of (M := m_Model_feed) rfl (Nat.le_of_ble_eq_true rfl) ?_
  refine ax_mv 0 0 [some (.ref 222), some (ax_i x1), some (ax_i x2), none] [] rfl ?_
  refine ax_mv 1 1 [some (.ref 222), some (ax_i x1), some (ax_i x2), none] [ax_i 0] rfl ?_
  refine ax_sti (i := 0) (k := 3) (n := 1) (pc' := 2) (L' := [some (.ref 222), some (ax_i x1), some (ax_i x2), some (ax_i 0)]) ⟨_, rfl⟩ rfl rfl rfl (Nat.le_of_ble_eq_true rfl) rfl rfl ?_
  exact h
abbrev k_Model_findWay_7 (d : Nat) (x1 : Int) (x2 : Int) (x3 : Int) (y4 : Option Value) (V : ax_V) (Φ : ax_V → Prop) (Θ : ax_V → Prop) : Prop := ax_R ay_lay ax_t d m_Model_findWay 7 [some (.ref 222), some (ax_i x1), some (ax_i x2), some (ax_i x3), y4] [] V (ax_Nr Φ) Θ
abbrev k_Model_findWay_59 (d : Nat) (y1 : Option Value) (y2 : Option Value) (x3 : Int) (x4 : Int) (V : ax_V) (Φ : ax_V → Prop) (Θ : ax_V → Prop) : Prop := ax_R ay_lay ax_t d m_Model_findWay 59 [some (.ref 222), y1, y2, some (ax_i x3), some (ax_i x4)] [] V (ax_Nr Φ) Θ
theorem r_Model_findWay_7 {d : Nat} {V : ax_V} {Φ : ax_V → Prop} {Θ : ax_V → Prop} {x1 : Int} {x2 : Int} {x3 : Int} {y4 : Option Value} (hg : ax_g V) (hx1 : ax_rg x1) (hx2 : ax_rg x2) (hx3 : ax_rg x3) (hy4 : ax_y y4) (h : (0 ≤ x3 ∧ x3 < 300) ∧ ((V 310 x3 = -1 → (0 ≤ (V 222 120) - 1 ∧ (V 222 120) - 1 < 301) ∧ (∀ V1, V1 = ax_u V 312 ((V 222 120) - 1) x2 → k_Model_findWay_59 d (some (ax_i x1)) (some (ax_i x2)) ((V1 222 120) - 2) x1 V1 Φ Θ)) ∧ (¬ V 310 x3 = -1 → ax_rg ((V 222 120) + 1) ∧ (∀ V2, V2 = ax_u V 222 120 ((V 222 120) + 1) → (0 ≤ x3 ∧ x3 < 300) ∧ k_Model_findWay_7 d x1 x2 (V2 310 x3) y4 V2 Φ Θ)))) : k_Model_findWay_7 d x1 x2 x3 y4 V Φ Θ := by
  refine ax_mv 1 8 [some (.ref 222), some (ax_i x1), some (ax_i x2), some (ax_i x3), y4] [.ref 222] rfl ?_
  refine ax_gR (v := .ref 310) (pc' := 11) ⟨_, rfl⟩ fl_12_273 ay_222 rfl rfl ?_
  refine ax_mv 1 12 [some (.ref 222), some (ax_i x1), some (ax_i x2), some (ax_i x3), y4] [ax_i x3, .ref 310] rfl ?_
  obtain ⟨o1, h⟩ := h
  refine ax_ild (n := 300) (pc' := 13) ⟨_, rfl⟩ ay_310 (by decide) o1 rfl ?_
  refine ax_mv 1 14 [some (.ref 222), some (ax_i x1), some (ax_i x2), some (ax_i x3), y4] [ax_i (-1), ax_i (V 310 x3)] rfl ?_
  refine ax_if2 (p1 := 37) (p2 := 17) ⟨_, rfl⟩ (by decide) rfl (hg _ _) (by decide) (fun hc => ?_) (fun hc => ?_)
  · have h := h.1 hc
    refine ax_mv 1 38 [some (.ref 222), some (ax_i x1), some (ax_i x2), some (ax_i x3), y4] [.ref 222] rfl ?_
    refine ax_gR (v := .ref 312) (pc' := 41) ⟨_, rfl⟩ fl_12_279 ay_222 rfl rfl ?_
    refine ax_mv 1 42 [some (.ref 222), some (ax_i x1), some (ax_i x2), some (ax_i x3), y4] [.ref 222, .ref 312] rfl ?_
    refine ax_gI (kI := 120) (pc' := 45) ⟨_, rfl⟩ fl_12_697 ay_222 rfl rfl rfl ?_
    refine ax_mv 1 46 [some (.ref 222), some (ax_i x1), some (ax_i x2), some (ax_i x3), y4] [ax_i 1, ax_i (V 222 120), .ref 312] rfl ?_
    refine ax_sub (pc' := 47) ⟨_, rfl⟩ rfl ?_
    refine ax_mv 1 48 [some (.ref 222), some (ax_i x1), some (ax_i x2), some (ax_i x3), y4] [ax_i x2, ax_i ((V 222 120) - 1), .ref 312] rfl ?_
    obtain ⟨o2, h⟩ := h
    obtain ⟨V1, eV1⟩ : ∃ W9 : ax_V, W9 = ax_u V 312 ((V 222 120) - 1) x2 := ⟨_, rfl⟩
    have h := h V1 eV1
    have hg1 : ax_g V1 := eV1 ▸ ax_u_g hg hx2
    refine ax_ist (n := 301) (pc' := 49) ⟨_, rfl⟩ ay_ok ay_312 (by decide) o2 eV1 rfl ?_
    refine ax_mv 1 50 [some (.ref 222), some (ax_i x1), some (ax_i x2), some (ax_i x3), y4] [.ref 222] rfl ?_
    refine ax_gI (kI := 120) (pc' := 53) ⟨_, rfl⟩ fl_12_697 ay_222 rfl rfl rfl ?_
    refine ax_mv 1 54 [some (.ref 222), some (ax_i x1), some (ax_i x2), some (ax_i x3), y4] [ax_i 2, ax_i (V1 222 120)] rfl ?_
    refine ax_sub (pc' := 55) ⟨_, rfl⟩ rfl ?_
    refine ax_sti (i := 0) (k := 3) (n := 1) (pc' := 56) (L' := [some (.ref 222), some (ax_i x1), some (ax_i x2), some (ax_i ((V1 222 120) - 2)), y4]) ⟨_, rfl⟩ rfl rfl rfl (Nat.le_of_ble_eq_true rfl) rfl rfl ?_
    refine ax_mv 1 57 [some (.ref 222), some (ax_i x1), some (ax_i x2), some (ax_i ((V1 222 120) - 2)), y4] [ax_i x1] rfl ?_
    refine ax_sti (i := 0) (k := 4) (n := 2) (pc' := 59) (L' := [some (.ref 222), some (ax_i x1), some (ax_i x2), some (ax_i ((V1 222 120) - 2)), some (ax_i x1)]) ⟨_, rfl⟩ rfl rfl rfl (Nat.le_of_ble_eq_true rfl) rfl rfl ?_
    exact h
  · have h := h.2 hc
    refine ax_mv 2 19 [some (.ref 222), some (ax_i x1), some (ax_i x2), some (ax_i x3), y4] [.ref 222, .ref 222] rfl ?_
    refine ax_gI (kI := 120) (pc' := 22) ⟨_, rfl⟩ fl_12_697 ay_222 rfl rfl rfl ?_
    refine ax_mv 1 23 [some (.ref 222), some (ax_i x1), some (ax_i x2), some (ax_i x3), y4] [ax_i 1, ax_i (V 222 120), .ref 222] rfl ?_
    refine ax_add (pc' := 24) ⟨_, rfl⟩ rfl ?_
    obtain ⟨o3, h⟩ := h
    obtain ⟨V2, eV2⟩ : ∃ W9 : ax_V, W9 = ax_u V 222 120 ((V 222 120) + 1) := ⟨_, rfl⟩
    have h := h V2 eV2
    have hg2 : ax_g V2 := eV2 ▸ ax_u_g hg o3
    refine ax_pI (kI := 120) (pc' := 27) ⟨_, rfl⟩ fl_12_697 ay_ok ay_222 rfl rfl rfl rfl eV2 rfl ?_
    refine ax_mv 1 28 [some (.ref 222), some (ax_i x1), some (ax_i x2), some (ax_i x3), y4] [.ref 222] rfl ?_
    refine ax_gR (v := .ref 310) (pc' := 31) ⟨_, rfl⟩ fl_12_273 ay_222 rfl rfl ?_
    refine ax_mv 1 32 [some (.ref 222), some (ax_i x1), some (ax_i x2), some (ax_i x3), y4] [ax_i x3, .ref 310] rfl ?_
    obtain ⟨o4, h⟩ := h
    refine ax_ild (n := 300) (pc' := 33) ⟨_, rfl⟩ ay_310 (by decide) o4 rfl ?_
    refine ax_sti (i := 0) (k := 3) (n := 1) (pc' := 34) (L' := [some (.ref 222), some (ax_i x1), some (ax_i x2), some (ax_i (V2 310 x3)), y4]) ⟨_, rfl⟩ rfl rfl rfl (Nat.le_of_ble_eq_true rfl) rfl rfl ?_
    refine ax_mv 1 7 [some (.ref 222), some (ax_i x1), some (ax_i x2), some (ax_i (V2 310 x3)), y4] [] rfl ?_
    exact h
theorem r_Model_findWay_59 {d : Nat} {V : ax_V} {Φ : ax_V → Prop} {Θ : ax_V → Prop} {y1 : Option Value} {y2 : Option Value} {x3 : Int} {x4 : Int} (hg : ax_g V) (hy1 : ax_y y1) (hy2 : ax_y y2) (hx3 : ax_rg x3) (hx4 : ax_rg x4) (h : (0 ≤ x4 ∧ x4 < 300) ∧ ((V 310 x4 = -1 → Φ V) ∧ (¬ V 310 x4 = -1 → (0 ≤ x4 ∧ x4 < 300) ∧ (0 ≤ x3 ∧ x3 < 301) ∧ (∀ V1, V1 = ax_u V 312 x3 (V 311 x4) → (0 ≤ x4 ∧ x4 < 300) ∧ k_Model_findWay_59 d y1 y2 (x3 + (-1)) (V1 310 x4) V1 Φ Θ)))) : k_Model_findWay_59 d y1 y2 x3 x4 V Φ Θ := by
  refine ax_mv 1 60 [some (.ref 222), y1, y2, some (ax_i x3), some (ax_i x4)] [.ref 222] rfl ?_
  refine ax_gR (v := .ref 310) (pc' := 63) ⟨_, rfl⟩ fl_12_273 ay_222 rfl rfl ?_
  refine ax_mv 1 65 [some (.ref 222), y1, y2, some (ax_i x3), some (ax_i x4)] [ax_i x4, .ref 310] rfl ?_
  obtain ⟨o5, h⟩ := h
  refine ax_ild (n := 300) (pc' := 66) ⟨_, rfl⟩ ay_310 (by decide) o5 rfl ?_
  refine ax_mv 1 67 [some (.ref 222), y1, y2, some (ax_i x3), some (ax_i x4)] [ax_i (-1), ax_i (V 310 x4)] rfl ?_
  refine ax_if2 (p1 := 98) (p2 := 70) ⟨_, rfl⟩ (by decide) rfl (hg _ _) (by decide) (fun hc => ?_) (fun hc => ?_)
  · have h := h.1 hc
    exact ax_nret ⟨_, rfl⟩ rfl hg h
  · have h := h.2 hc
    refine ax_mv 1 71 [some (.ref 222), y1, y2, some (ax_i x3), some (ax_i x4)] [.ref 222] rfl ?_
    refine ax_gR (v := .ref 312) (pc' := 74) ⟨_, rfl⟩ fl_12_279 ay_222 rfl rfl ?_
    refine ax_mv 2 76 [some (.ref 222), y1, y2, some (ax_i x3), some (ax_i x4)] [.ref 222, ax_i x3, .ref 312] rfl ?_
    refine ax_gR (v := .ref 311) (pc' := 79) ⟨_, rfl⟩ fl_12_276 ay_222 rfl rfl ?_
    refine ax_mv 1 81 [some (.ref 222), y1, y2, some (ax_i x3), some (ax_i x4)] [ax_i x4, .ref 311, ax_i x3, .ref 312] rfl ?_
    obtain ⟨o6, h⟩ := h
    refine ax_ild (n := 300) (pc' := 82) ⟨_, rfl⟩ ay_311 (by decide) o6 rfl ?_
    obtain ⟨o7, h⟩ := h
    obtain ⟨V1, eV1⟩ : ∃ W9 : ax_V, W9 = ax_u V 312 x3 (V 311 x4) := ⟨_, rfl⟩
    have h := h V1 eV1
    have hg1 : ax_g V1 := eV1 ▸ ax_u_g hg (hg _ _)
    refine ax_ist (n := 301) (pc' := 83) ⟨_, rfl⟩ ay_ok ay_312 (by decide) o7 eV1 rfl ?_
    refine ax_inc (x := x3) (pc' := 86) (L' := [some (.ref 222), y1, y2, some (ax_i (x3 + (-1))), some (ax_i x4)]) ⟨_, rfl⟩ rfl (ax_kill_y (k := 2) rfl hy2) rfl rfl ?_
    refine ax_mv 1 87 [some (.ref 222), y1, y2, some (ax_i (x3 + (-1))), some (ax_i x4)] [.ref 222] rfl ?_
    refine ax_gR (v := .ref 310) (pc' := 90) ⟨_, rfl⟩ fl_12_273 ay_222 rfl rfl ?_
    refine ax_mv 1 92 [some (.ref 222), y1, y2, some (ax_i (x3 + (-1))), some (ax_i x4)] [ax_i x4, .ref 310] rfl ?_
    obtain ⟨o8, h⟩ := h
    refine ax_ild (n := 300) (pc' := 93) ⟨_, rfl⟩ ay_310 (by decide) o8 rfl ?_
    refine ax_sti (i := 0) (k := 4) (n := 2) (pc' := 95) (L' := [some (.ref 222), y1, y2, some (ax_i (x3 + (-1))), some (ax_i (V1 310 x4))]) ⟨_, rfl⟩ rfl rfl rfl (Nat.le_of_ble_eq_true rfl) rfl rfl ?_
    refine ax_mv 1 59 [some (.ref 222), y1, y2, some (ax_i (x3 + (-1))), some (ax_i (V1 310 x4))] [] rfl ?_
    exact h
theorem r_Model_findWay {d : Nat} {V : ax_V} {Φ : ax_V → Prop} {Θ : ax_V → Prop} {x1 : Int} {x2 : Int} (hg : ax_g V) (hx1 : ax_rg x1) (hx2 : ax_rg x2) (h : (∀ V1, V1 = ax_u V 222 120 1 → k_Model_findWay_7 d x1 x2 x1 none V1 Φ Θ)) : ax_N ay_lay (d + 1) q_Model_findWay [.ref 222, ax_i x1, ax_i x2] V Φ Θ := by
  refine ax_T.of (M := m_Model_findWay) rfl (Nat.le_of_ble_eq_true rfl) ?_
  refine ax_mv 0 0 [some (.ref 222), some (ax_i x1), some (ax_i x2), none, none] [] rfl ?_
  refine ax_mv 2 2 [some (.ref 222), some (ax_i x1), some (ax_i x2), none, none] [ax_i 1, .ref 222] rfl ?_
  obtain ⟨V1, eV1⟩ : ∃ W9 : ax_V, W9 = ax_u V 222 120 1 := ⟨_, rfl⟩
  have h := h V1 eV1
  have hg1 : ax_g V1 := eV1 ▸ ax_u_g hg (by decide)
  refine ax_pI (kI := 120) (pc' := 5) ⟨_, rfl⟩ fl_12_697 ay_ok ay_222 rfl rfl rfl rfl eV1 rfl ?_
  refine ax_mv 1 6 [some (.ref 222), some (ax_i x1), some (ax_i x2), none, none] [ax_i x1] rfl ?_
  refine ax_sti (i := 0) (k := 3) (n := 1) (pc' := 7) (L' := [some (.ref 222), some (ax_i x1), some (ax_i x2), some (ax_i x1), none]) ⟨_, rfl⟩ rfl rfl rfl (Nat.le_of_ble_eq_true rfl) rfl rfl ?_
  exact h
abbrev k_Model_isSeen_2 (d : Nat) (x1 : Int) (y2 : Option Value) (y3 : Option Value) (V : ax_V) (Φ : Int → ax_V → Prop) (Θ : ax_V → Prop) : Prop := ax_R ay_lay ax_t d m_Model_isSeen 2 [some (.ref 222), some (ax_i x1), y2, y3] [] V (ax_Ir Φ) Θ
abbrev k_Model_isSeen_14 (d : Nat) (x1 : Int) (x2 : Int) (x3 : Int) (V : ax_V) (Φ : Int → ax_V → Prop) (Θ : ax_V → Prop) : Prop := ax_R ay_lay ax_t d m_Model_isSeen 14 [some (.ref 222), some (ax_i x1), some (ax_i x2), some (ax_i x3)] [] V (ax_Ir Φ) Θ
theorem r_Model_isSeen_2 {d : Nat} {V : ax_V} {Φ : Int → ax_V → Prop} {Θ : ax_V → Prop} {x1 : Int} {y2 : Option Value} {y3 : Option Value} (hg : ax_g V) (hx1 : ax_rg x1) (hy2 : ax_y y2) (hy3 : ax_y y3) (h : ((V 222 115 ≤ x1 → Φ 0 V) ∧ (x1 < V 222 115 → k_Model_isSeen_14 d x1 1 0 V Φ Θ))) : k_Model_isSeen_2 d x1 y2 y3 V Φ Θ := by
  refine ax_mv 2 4 [some (.ref 222), some (ax_i x1), y2, y3] [.ref 222, ax_i x1] rfl ?_
  refine ax_gI (kI := 115) (pc' := 7) ⟨_, rfl⟩ fl_12_688 ay_222 rfl rfl rfl ?_
  refine ax_if2 (p1 := 71) (p2 := 10) ⟨_, rfl⟩ (by decide) rfl hx1 (hg _ _) (fun hc => ?_) (fun hc => ?_)
  · have h := h.1 hc
    refine ax_mv 1 72 [some (.ref 222), some (ax_i x1), y2, y3] [ax_i 0] rfl ?_
    exact ax_iret ⟨_, rfl⟩ rfl (ax_nbv (by decide)) (by decide) hg h
  · have h := h.2 (Int.not_le.mp hc)
    refine ax_mv 1 11 [some (.ref 222), some (ax_i x1), y2, y3] [ax_i 1] rfl ?_
    refine ax_sti (i := 0) (k := 2) (n := 1) (pc' := 12) (L' := [some (.ref 222), some (ax_i x1), some (ax_i 1), y3]) ⟨_, rfl⟩ rfl rfl rfl (Nat.le_of_ble_eq_true rfl) rfl rfl ?_
    refine ax_mv 1 13 [some (.ref 222), some (ax_i x1), some (ax_i 1), y3] [ax_i 0] rfl ?_
    refine ax_sti (i := 0) (k := 3) (n := 1) (pc' := 14) (L' := [some (.ref 222), some (ax_i x1), some (ax_i 1), some (ax_i 0)]) ⟨_, rfl⟩ rfl rfl rfl (Nat.le_of_ble_eq_true rfl) rfl rfl ?_
    exact h
theorem r_Model_isSeen_14 {d : Nat} {V : ax_V} {Φ : Int → ax_V → Prop} {Θ : ax_V → Prop} {x1 : Int} {x2 : Int} {x3 : Int} (hg : ax_g V) (hx1 : ax_rg x1) (hx2 : ax_rg x2) (hx3 : ax_rg x3) (h : ((V 222 116 ≤ x3 → ((x2 = 0 → k_Model_isSeen_2 d (x1 + 1) (some (ax_i x2)) (some (ax_i x3)) V Φ Θ) ∧ (¬ x2 = 0 → Φ 1 V))) ∧ (x3 < V 222 116 → ((x2 = 0 → ((x2 = 0 → k_Model_isSeen_2 d (x1 + 1) (some (ax_i x2)) (some (ax_i x3)) V Φ Θ) ∧ (¬ x2 = 0 → Φ 1 V))) ∧ (¬ x2 = 0 → (0 ≤ (600 * x1) + x3 ∧ (600 * x1) + x3 < 180000) ∧ (0 ≤ x3 ∧ x3 < 600) ∧ ((V 309 ((600 * x1) + x3) = V 292 x3 → k_Model_isSeen_14 d x1 1 (x3 + 1) V Φ Θ) ∧ (¬ V 309 ((600 * x1) + x3) = V 292 x3 → k_Model_isSeen_14 d x1 0 (x3 + 1) V Φ Θ))))))) : k_Model_isSeen_14 d x1 x2 x3 V Φ Θ := by
  refine ax_mv 2 16 [some (.ref 222), some (ax_i x1), some (ax_i x2), some (ax_i x3)] [.ref 222, ax_i x3] rfl ?_
  refine ax_gI (kI := 116) (pc' := 19) ⟨_, rfl⟩ fl_12_685 ay_222 rfl rfl rfl ?_
  refine ax_if2 (p1 := 59) (p2 := 22) ⟨_, rfl⟩ (by decide) rfl hx3 (hg _ _) (fun hc => ?_) (fun hc => ?_)
  · have h := h.1 hc
    refine ax_mv 1 60 [some (.ref 222), some (ax_i x1), some (ax_i x2), some (ax_i x3)] [ax_i x2] rfl ?_
    refine ax_if (p1 := 65) (p2 := 63) ⟨_, rfl⟩ (by decide) rfl hx2 (fun hc => ?_) (fun hc => ?_)
    · have h := h.1 hc
      refine ax_inc (x := x1) (pc' := 68) (L' := [some (.ref 222), some (ax_i (x1 + 1)), some (ax_i x2), some (ax_i x3)]) ⟨_, rfl⟩ rfl rfl rfl rfl ?_
      refine ax_mv 1 2 [some (.ref 222), some (ax_i (x1 + 1)), some (ax_i x2), some (ax_i x3)] [] rfl ?_
      exact h
    · have h := h.2 hc
      refine ax_mv 1 64 [some (.ref 222), some (ax_i x1), some (ax_i x2), some (ax_i x3)] [ax_i 1] rfl ?_
      exact ax_iret ⟨_, rfl⟩ rfl (ax_nbv (by decide)) (by decide) hg h
  · have h := h.2 (Int.not_le.mp hc)
    refine ax_mv 1 23 [some (.ref 222), some (ax_i x1), some (ax_i x2), some (ax_i x3)] [ax_i x2] rfl ?_
    refine ax_if (p1 := 59) (p2 := 26) ⟨_, rfl⟩ (by decide) rfl hx2 (fun hc => ?_) (fun hc => ?_)
    · have h := h.1 hc
      refine ax_mv 1 60 [some (.ref 222), some (ax_i x1), some (ax_i x2), some (ax_i x3)] [ax_i x2] rfl ?_
      refine ax_if (p1 := 65) (p2 := 63) ⟨_, rfl⟩ (by decide) rfl hx2 (fun hc => ?_) (fun hc => ?_)
      · have h := h.1 hc
        refine ax_inc (x := x1) (pc' := 68) (L' := [some (.ref 222), some (ax_i (x1 + 1)), some (ax_i x2), some (ax_i x3)]) ⟨_, rfl⟩ rfl rfl rfl rfl ?_
        refine ax_mv 1 2 [some (.ref 222), some (ax_i (x1 + 1)), some (ax_i x2), some (ax_i x3)] [] rfl ?_
        exact h
      · have h := h.2 hc
        refine ax_mv 1 64 [some (.ref 222), some (ax_i x1), some (ax_i x2), some (ax_i x3)] [ax_i 1] rfl ?_
        exact ax_iret ⟨_, rfl⟩ rfl (ax_nbv (by decide)) (by decide) hg h
    · have h := h.2 hc
      refine ax_mv 1 27 [some (.ref 222), some (ax_i x1), some (ax_i x2), some (ax_i x3)] [.ref 222] rfl ?_
      refine ax_gR (v := .ref 309) (pc' := 30) ⟨_, rfl⟩ fl_12_270 ay_222 rfl rfl ?_
      refine ax_sip (pc' := 33) ⟨_, rfl⟩ (by decide) rfl ?_
      refine ax_mv 1 34 [some (.ref 222), some (ax_i x1), some (ax_i x2), some (ax_i x3)] [ax_i x1, ax_i 600, .ref 309] rfl ?_
      refine ax_mul (pc' := 35) ⟨_, rfl⟩ rfl ?_
      refine ax_mv 1 36 [some (.ref 222), some (ax_i x1), some (ax_i x2), some (ax_i x3)] [ax_i x3, ax_i (600 * x1), .ref 309] rfl ?_
      refine ax_add (pc' := 37) ⟨_, rfl⟩ rfl ?_
      obtain ⟨o1, h⟩ := h
      refine ax_ild (n := 180000) (pc' := 38) ⟨_, rfl⟩ ay_309 (by decide) o1 rfl ?_
      refine ax_mv 1 39 [some (.ref 222), some (ax_i x1), some (ax_i x2), some (ax_i x3)] [.ref 222, ax_i (V 309 ((600 * x1) + x3))] rfl ?_
      refine ax_gR (v := .ref 292) (pc' := 42) ⟨_, rfl⟩ fl_12_218 ay_222 rfl rfl ?_
      refine ax_mv 1 43 [some (.ref 222), some (ax_i x1), some (ax_i x2), some (ax_i x3)] [ax_i x3, .ref 292, ax_i (V 309 ((600 * x1) + x3))] rfl ?_
      obtain ⟨o2, h⟩ := h
      refine ax_ild (n := 600) (pc' := 44) ⟨_, rfl⟩ ay_292 (by decide) o2 rfl ?_
      refine ax_if2 (p1 := 51) (p2 := 47) ⟨_, rfl⟩ (by decide) rfl (hg _ _) (hg _ _) (fun hc => ?_) (fun hc => ?_)
      · have h := h.2 hc
        refine ax_mv 1 52 [some (.ref 222), some (ax_i x1), some (ax_i x2), some (ax_i x3)] [ax_i 0] rfl ?_
        refine ax_sti (i := 0) (k := 2) (n := 1) (pc' := 53) (L' := [some (.ref 222), some (ax_i x1), some (ax_i 0), some (ax_i x3)]) ⟨_, rfl⟩ rfl rfl rfl (Nat.le_of_ble_eq_true rfl) rfl rfl ?_
        refine ax_inc (x := x3) (pc' := 56) (L' := [some (.ref 222), some (ax_i x1), some (ax_i 0), some (ax_i (x3 + 1))]) ⟨_, rfl⟩ rfl rfl rfl rfl ?_
        refine ax_mv 1 14 [some (.ref 222), some (ax_i x1), some (ax_i 0), some (ax_i (x3 + 1))] [] rfl ?_
        exact h
      · have h := h.1 (Classical.not_not.mp hc)
        refine ax_mv 2 52 [some (.ref 222), some (ax_i x1), some (ax_i x2), some (ax_i x3)] [ax_i 1] rfl ?_
        refine ax_sti (i := 0) (k := 2) (n := 1) (pc' := 53) (L' := [some (.ref 222), some (ax_i x1), some (ax_i 1), some (ax_i x3)]) ⟨_, rfl⟩ rfl rfl rfl (Nat.le_of_ble_eq_true rfl) rfl rfl ?_
        refine ax_inc (x := x3) (pc' := 56) (L' := [some (.ref 222), some (ax_i x1), some (ax_i 1), some (ax_i (x3 + 1))]) ⟨_, rfl⟩ rfl rfl rfl rfl ?_
        refine ax_mv 1 14 [some (.ref 222), some (ax_i x1), some (ax_i 1), some (ax_i (x3 + 1))] [] rfl ?_
        exact h
theorem r_Model_isSeen {d : Nat} {V : ax_V} {Φ : Int → ax_V → Prop} {Θ : ax_V → Prop} (hg : ax_g V) (h : k_Model_isSeen_2 d 0 none none V Φ Θ) : ax_I ay_lay (d + 1) q_Model_isSeen [.ref 222] V Φ Θ := by
  refine ax_T.of (M := m_Model_isSeen) rfl (Nat.le_of_ble_eq_true rfl) ?_
  refine ax_mv 0 0 [some (.ref 222), none, none, none] [] rfl ?_
  refine ax_mv 1 1 [some (.ref 222), none, none, none] [ax_i 0] rfl ?_
  refine ax_sti (i := 0) (k := 1) (n := 1) (pc' := 2) (L' := [some (.ref 222), some (ax_i 0), none, none]) ⟨_, rfl⟩ rfl rfl rfl (Nat.le_of_ble_eq_true rfl) rfl rfl ?_
  exact h
abbrev k_Model_alike_67 (d : Nat) (x1 : Int) (x2 : Int) (x3 : Int) (x4 : Int) (V : ax_V) (Φ : Int → ax_V → Prop) (Θ : ax_V → Prop) : Prop := ax_R ay_lay ax_t d m_Model_alike 67 [some (.ref 222), some (ax_i x1), some (ax_i x2), some (ax_i x3), some (ax_i x4)] [] V (ax_Ir Φ) Θ
set_option maxRecDepth 20000 in
theorem r_Model_alike_67 {d : Nat} {V : ax_V} {Φ : Int → ax_V → Prop} {Θ : ax_V → Prop} {x1 : Int} {x2 : Int} {x3 : Int} {x4 : Int} (hg : ax_g V) (hx1 : ax_rg x1) (hx2 : ax_rg x2) (hx3 : ax_rg x3) (hx4 : ax_rg x4) (h : (0 ≤ x1 ∧ x1 < 9) ∧ ((V 228 x1 ≤ x4 → ax_I ay_lay d q_Model_search [.ref 222, ax_i x1, ax_i 0, ax_i x2, ax_i x3] V (fun r1 V1 => (∀ V2, V2 = ax_u V1 222 114 r1 → Φ (V2 222 114) V2)) Θ) ∧ (x4 < V 228 x1 → (0 ≤ (26 * x1) + x4 ∧ (26 * x1) + x4 < 240) ∧ (0 ≤ (26 * x1) + (V 231 ((26 * x1) + x4)) ∧ (26 * x1) + (V 231 ((26 * x1) + x4)) < 240) ∧ (0 ≤ (26 * x2) + x4 ∧ (26 * x2) + x4 < 240) ∧ (0 ≤ (26 * x2) + (V 231 ((26 * x2) + x4)) ∧ (26 * x2) + (V 231 ((26 * x2) + x4)) < 240) ∧ ((V 233 ((26 * x1) + (V 231 ((26 * x1) + x4))) = V 233 ((26 * x2) + (V 231 ((26 * x2) + x4))) → k_Model_alike_67 d x1 x2 x3 (x4 + 1) V Φ Θ) ∧ (¬ V 233 ((26 * x1) + (V 231 ((26 * x1) + x4))) = V 233 ((26 * x2) + (V 231 ((26 * x2) + x4))) → Φ (-1) V))))) : k_Model_alike_67 d x1 x2 x3 x4 V Φ Θ := by
  refine ax_mv 2 70 [some (.ref 222), some (ax_i x1), some (ax_i x2), some (ax_i x3), some (ax_i x4)] [.ref 222, ax_i x4] rfl ?_
  refine ax_gR (v := .ref 228) (pc' := 73) ⟨_, rfl⟩ fl_12_25 ay_222 rfl rfl ?_
  refine ax_mv 1 74 [some (.ref 222), some (ax_i x1), some (ax_i x2), some (ax_i x3), some (ax_i x4)] [ax_i x1, .ref 228, ax_i x4] rfl ?_
  obtain ⟨o1, h⟩ := h
  refine ax_ild (n := 9) (pc' := 75) ⟨_, rfl⟩ ay_228 (by decide) o1 rfl ?_
  refine ax_if2 (p1 := 133) (p2 := 78) ⟨_, rfl⟩ (by decide) rfl hx4 (hg _ _) (fun hc => ?_) (fun hc => ?_)
  · have h := h.1 hc
    refine ax_mv 6 139 [some (.ref 222), some (ax_i x1), some (ax_i x2), some (ax_i x3), some (ax_i x4)] [ax_i x3, ax_i x2, ax_i 0, ax_i x1, .ref 222, .ref 222] rfl ?_
    refine ax_callI (pc' := 142) ⟨_, rfl⟩ ml_12_724 (rest := [.ref 222]) rfl (fun ss hs => ⟨_, _, ay_222 ss hs⟩) (Nat.le_of_ble_eq_true rfl) rfl rfl h (fun r1 V1 hg1 hr1 h => ?_)
    obtain ⟨V2, eV2⟩ : ∃ W9 : ax_V, W9 = ax_u V1 222 114 r1 := ⟨_, rfl⟩
    have h := h V2 eV2
    have hg2 : ax_g V2 := eV2 ▸ ax_u_g hg1 hr1
    refine ax_pI (kI := 114) (pc' := 145) ⟨_, rfl⟩ fl_12_728 ay_ok ay_222 rfl rfl rfl rfl eV2 rfl ?_
    refine ax_mv 1 146 [some (.ref 222), some (ax_i x1), some (ax_i x2), some (ax_i x3), some (ax_i x4)] [.ref 222] rfl ?_
    refine ax_gI (kI := 114) (pc' := 149) ⟨_, rfl⟩ fl_12_728 ay_222 rfl rfl rfl ?_
    exact ax_iret ⟨_, rfl⟩ rfl rfl (hg2 _ _) hg2 h
  · have h := h.2 (Int.not_le.mp hc)
    refine ax_mv 1 79 [some (.ref 222), some (ax_i x1), some (ax_i x2), some (ax_i x3), some (ax_i x4)] [.ref 222] rfl ?_
    refine ax_gR (v := .ref 233) (pc' := 82) ⟨_, rfl⟩ fl_12_40 ay_222 rfl rfl ?_
    refine ax_bip (pc' := 84) ⟨_, rfl⟩ (by decide) rfl ?_
    refine ax_mv 1 85 [some (.ref 222), some (ax_i x1), some (ax_i x2), some (ax_i x3), some (ax_i x4)] [ax_i x1, ax_i 26, .ref 233] rfl ?_
    refine ax_mul (pc' := 86) ⟨_, rfl⟩ rfl ?_
    refine ax_mv 1 87 [some (.ref 222), some (ax_i x1), some (ax_i x2), some (ax_i x3), some (ax_i x4)] [.ref 222, ax_i (26 * x1), .ref 233] rfl ?_
    refine ax_gR (v := .ref 231) (pc' := 90) ⟨_, rfl⟩ fl_12_34 ay_222 rfl rfl ?_
    refine ax_bip (pc' := 92) ⟨_, rfl⟩ (by decide) rfl ?_
    refine ax_mv 1 93 [some (.ref 222), some (ax_i x1), some (ax_i x2), some (ax_i x3), some (ax_i x4)] [ax_i x1, ax_i 26, .ref 231, ax_i (26 * x1), .ref 233] rfl ?_
    refine ax_mul (pc' := 94) ⟨_, rfl⟩ rfl ?_
    refine ax_mv 1 96 [some (.ref 222), some (ax_i x1), some (ax_i x2), some (ax_i x3), some (ax_i x4)] [ax_i x4, ax_i (26 * x1), .ref 231, ax_i (26 * x1), .ref 233] rfl ?_
    refine ax_add (pc' := 97) ⟨_, rfl⟩ rfl ?_
    obtain ⟨o2, h⟩ := h
    refine ax_ild (n := 240) (pc' := 98) ⟨_, rfl⟩ ay_231 (by decide) o2 rfl ?_
    refine ax_add (pc' := 99) ⟨_, rfl⟩ rfl ?_
    obtain ⟨o3, h⟩ := h
    refine ax_ild (n := 240) (pc' := 100) ⟨_, rfl⟩ ay_233 (by decide) o3 rfl ?_
    refine ax_mv 1 101 [some (.ref 222), some (ax_i x1), some (ax_i x2), some (ax_i x3), some (ax_i x4)] [.ref 222, ax_i (V 233 ((26 * x1) + (V 231 ((26 * x1) + x4))))] rfl ?_
    refine ax_gR (v := .ref 233) (pc' := 104) ⟨_, rfl⟩ fl_12_40 ay_222 rfl rfl ?_
    refine ax_bip (pc' := 106) ⟨_, rfl⟩ (by decide) rfl ?_
    refine ax_mv 1 107 [some (.ref 222), some (ax_i x1), some (ax_i x2), some (ax_i x3), some (ax_i x4)] [ax_i x2, ax_i 26, .ref 233, ax_i (V 233 ((26 * x1) + (V 231 ((26 * x1) + x4))))] rfl ?_
    refine ax_mul (pc' := 108) ⟨_, rfl⟩ rfl ?_
    refine ax_mv 1 109 [some (.ref 222), some (ax_i x1), some (ax_i x2), some (ax_i x3), some (ax_i x4)] [.ref 222, ax_i (26 * x2), .ref 233, ax_i (V 233 ((26 * x1) + (V 231 ((26 * x1) + x4))))] rfl ?_
    refine ax_gR (v := .ref 231) (pc' := 112) ⟨_, rfl⟩ fl_12_34 ay_222 rfl rfl ?_
    refine ax_bip (pc' := 114) ⟨_, rfl⟩ (by decide) rfl ?_
    refine ax_mv 1 115 [some (.ref 222), some (ax_i x1), some (ax_i x2), some (ax_i x3), some (ax_i x4)] [ax_i x2, ax_i 26, .ref 231, ax_i (26 * x2), .ref 233, ax_i (V 233 ((26 * x1) + (V 231 ((26 * x1) + x4))))] rfl ?_
    refine ax_mul (pc' := 116) ⟨_, rfl⟩ rfl ?_
    refine ax_mv 1 118 [some (.ref 222), some (ax_i x1), some (ax_i x2), some (ax_i x3), some (ax_i x4)] [ax_i x4, ax_i (26 * x2), .ref 231, ax_i (26 * x2), .ref 233, ax_i (V 233 ((26 * x1) + (V 231 ((26 * x1) + x4))))] rfl ?_
    refine ax_add (pc' := 119) ⟨_, rfl⟩ rfl ?_
    obtain ⟨o4, h⟩ := h
    refine ax_ild (n := 240) (pc' := 120) ⟨_, rfl⟩ ay_231 (by decide) o4 rfl ?_
    refine ax_add (pc' := 121) ⟨_, rfl⟩ rfl ?_
    obtain ⟨o5, h⟩ := h
    refine ax_ild (n := 240) (pc' := 122) ⟨_, rfl⟩ ay_233 (by decide) o5 rfl ?_
    refine ax_if2 (p1 := 127) (p2 := 125) ⟨_, rfl⟩ (by decide) rfl (hg _ _) (hg _ _) (fun hc => ?_) (fun hc => ?_)
    · have h := h.1 hc
      refine ax_inc (x := x4) (pc' := 130) (L' := [some (.ref 222), some (ax_i x1), some (ax_i x2), some (ax_i x3), some (ax_i (x4 + 1))]) ⟨_, rfl⟩ rfl rfl rfl rfl ?_
      refine ax_mv 1 67 [some (.ref 222), some (ax_i x1), some (ax_i x2), some (ax_i x3), some (ax_i (x4 + 1))] [] rfl ?_
      exact h
    · have h := h.2 hc
      refine ax_mv 1 126 [some (.ref 222), some (ax_i x1), some (ax_i x2), some (ax_i x3), some (ax_i x4)] [ax_i (-1)] rfl ?_
      exact ax_iret ⟨_, rfl⟩ rfl rfl (by decide) hg h
set_option maxRecDepth 20000 in
theorem r_Model_alike {d : Nat} {V : ax_V} {Φ : Int → ax_V → Prop} {Θ : ax_V → Prop} {x1 : Int} {x2 : Int} {x3 : Int} (hg : ax_g V) (hx1 : ax_rg x1) (hx2 : ax_rg x2) (hx3 : ax_rg x3) (h : (∀ V1, V1 = ax_u V 222 0 0 → ax_I ay_lay d q_Model_canBeFed [.ref 222, ax_i x1] V1 (fun r2 V2 => ((r2 = 0 → Φ (-1) V2) ∧ (¬ r2 = 0 → ax_I ay_lay d q_Model_canBeFed [.ref 222, ax_i x2] V2 (fun r3 V3 => ((r3 = 0 → Φ (-1) V3) ∧ (¬ r3 = 0 → (0 ≤ x1 ∧ x1 < 9) ∧ (0 ≤ x2 ∧ x2 < 9) ∧ ((V3 227 x1 = V3 227 x2 → (0 ≤ x1 ∧ x1 < 9) ∧ (0 ≤ x2 ∧ x2 < 9) ∧ ((V3 228 x1 = V3 228 x2 → ax_I ay_lay d q_Model_within [ax_i x3, ax_i 1, ax_i 300] V3 (fun r4 V4 => ((r4 = 0 → Φ (-1) V4) ∧ (¬ r4 = 0 → k_Model_alike_67 d x1 x2 x3 0 V4 Φ Θ))) (fun _ => False)) ∧ (¬ V3 228 x1 = V3 228 x2 → Φ (-1) V3))) ∧ (¬ V3 227 x1 = V3 227 x2 → Φ (-1) V3))))) Θ))) Θ)) : ax_I ay_lay (d + 1) q_Model_alike [.ref 222, ax_i x1, ax_i x2, ax_i x3] V Φ Θ := by
  refine ax_T.of (M := m_Model_alike) rfl (Nat.le_of_ble_eq_true rfl) ?_
  refine ax_mv 0 0 [some (.ref 222), some (ax_i x1), some (ax_i x2), some (ax_i x3), none] [] rfl ?_
  refine ax_mv 2 2 [some (.ref 222), some (ax_i x1), some (ax_i x2), some (ax_i x3), none] [ax_i 0, .ref 222] rfl ?_
  obtain ⟨V1, eV1⟩ : ∃ W9 : ax_V, W9 = ax_u V 222 0 0 := ⟨_, rfl⟩
  have h := h V1 eV1
  have hg1 : ax_g V1 := eV1 ▸ ax_u_g hg (by decide)
  refine ax_pI (kI := 0) (pc' := 5) ⟨_, rfl⟩ fl_12_285 ay_ok ay_222 rfl rfl rfl rfl eV1 rfl ?_
  refine ax_mv 2 7 [some (.ref 222), some (ax_i x1), some (ax_i x2), some (ax_i x3), none] [ax_i x1, .ref 222] rfl ?_
  refine ax_callI (pc' := 10) ⟨_, rfl⟩ ml_12_721 (rest := []) rfl (fun ss hs => ⟨_, _, ay_222 ss hs⟩) (Nat.le_of_ble_eq_true rfl) rfl rfl h (fun r2 V2 hg2 hr2 h => ?_)
  refine ax_if (p1 := 62) (p2 := 13) ⟨_, rfl⟩ (by decide) rfl hr2 (fun hc => ?_) (fun hc => ?_)
  · have h := h.1 hc
    refine ax_mv 1 63 [some (.ref 222), some (ax_i x1), some (ax_i x2), some (ax_i x3), none] [ax_i (-1)] rfl ?_
    exact ax_iret ⟨_, rfl⟩ rfl rfl (by decide) hg2 h
  · have h := h.2 hc
    refine ax_mv 2 15 [some (.ref 222), some (ax_i x1), some (ax_i x2), some (ax_i x3), none] [ax_i x2, .ref 222] rfl ?_
    refine ax_callI (pc' := 18) ⟨_, rfl⟩ ml_12_721 (rest := []) rfl (fun ss hs => ⟨_, _, ay_222 ss hs⟩) (Nat.le_of_ble_eq_true rfl) rfl rfl h (fun r3 V3 hg3 hr3 h => ?_)
    refine ax_if (p1 := 62) (p2 := 21) ⟨_, rfl⟩ (by decide) rfl hr3 (fun hc => ?_) (fun hc => ?_)
    · have h := h.1 hc
      refine ax_mv 1 63 [some (.ref 222), some (ax_i x1), some (ax_i x2), some (ax_i x3), none] [ax_i (-1)] rfl ?_
      exact ax_iret ⟨_, rfl⟩ rfl rfl (by decide) hg3 h
    · have h := h.2 hc
      refine ax_mv 1 22 [some (.ref 222), some (ax_i x1), some (ax_i x2), some (ax_i x3), none] [.ref 222] rfl ?_
      refine ax_gR (v := .ref 227) (pc' := 25) ⟨_, rfl⟩ fl_12_22 ay_222 rfl rfl ?_
      refine ax_mv 1 26 [some (.ref 222), some (ax_i x1), some (ax_i x2), some (ax_i x3), none] [ax_i x1, .ref 227] rfl ?_
      obtain ⟨o6, h⟩ := h
      refine ax_ild (n := 9) (pc' := 27) ⟨_, rfl⟩ ay_227 (by decide) o6 rfl ?_
      refine ax_mv 1 28 [some (.ref 222), some (ax_i x1), some (ax_i x2), some (ax_i x3), none] [.ref 222, ax_i (V3 227 x1)] rfl ?_
      refine ax_gR (v := .ref 227) (pc' := 31) ⟨_, rfl⟩ fl_12_22 ay_222 rfl rfl ?_
      refine ax_mv 1 32 [some (.ref 222), some (ax_i x1), some (ax_i x2), some (ax_i x3), none] [ax_i x2, .ref 227, ax_i (V3 227 x1)] rfl ?_
      obtain ⟨o7, h⟩ := h
      refine ax_ild (n := 9) (pc' := 33) ⟨_, rfl⟩ ay_227 (by decide) o7 rfl ?_
      refine ax_if2 (p1 := 62) (p2 := 36) ⟨_, rfl⟩ (by decide) rfl (hg3 _ _) (hg3 _ _) (fun hc => ?_) (fun hc => ?_)
      · have h := h.2 hc
        refine ax_mv 1 63 [some (.ref 222), some (ax_i x1), some (ax_i x2), some (ax_i x3), none] [ax_i (-1)] rfl ?_
        exact ax_iret ⟨_, rfl⟩ rfl rfl (by decide) hg3 h
      · have h := h.1 (Classical.not_not.mp hc)
        refine ax_mv 1 37 [some (.ref 222), some (ax_i x1), some (ax_i x2), some (ax_i x3), none] [.ref 222] rfl ?_
        refine ax_gR (v := .ref 228) (pc' := 40) ⟨_, rfl⟩ fl_12_25 ay_222 rfl rfl ?_
        refine ax_mv 1 41 [some (.ref 222), some (ax_i x1), some (ax_i x2), some (ax_i x3), none] [ax_i x1, .ref 228] rfl ?_
        obtain ⟨o8, h⟩ := h
        refine ax_ild (n := 9) (pc' := 42) ⟨_, rfl⟩ ay_228 (by decide) o8 rfl ?_
        refine ax_mv 1 43 [some (.ref 222), some (ax_i x1), some (ax_i x2), some (ax_i x3), none] [.ref 222, ax_i (V3 228 x1)] rfl ?_
        refine ax_gR (v := .ref 228) (pc' := 46) ⟨_, rfl⟩ fl_12_25 ay_222 rfl rfl ?_
        refine ax_mv 1 47 [some (.ref 222), some (ax_i x1), some (ax_i x2), some (ax_i x3), none] [ax_i x2, .ref 228, ax_i (V3 228 x1)] rfl ?_
        obtain ⟨o9, h⟩ := h
        refine ax_ild (n := 9) (pc' := 48) ⟨_, rfl⟩ ay_228 (by decide) o9 rfl ?_
        refine ax_if2 (p1 := 62) (p2 := 51) ⟨_, rfl⟩ (by decide) rfl (hg3 _ _) (hg3 _ _) (fun hc => ?_) (fun hc => ?_)
        · have h := h.2 hc
          refine ax_mv 1 63 [some (.ref 222), some (ax_i x1), some (ax_i x2), some (ax_i x3), none] [ax_i (-1)] rfl ?_
          exact ax_iret ⟨_, rfl⟩ rfl rfl (by decide) hg3 h
        · have h := h.1 (Classical.not_not.mp hc)
          refine ax_mv 2 53 [some (.ref 222), some (ax_i x1), some (ax_i x2), some (ax_i x3), none] [ax_i 1, ax_i x3] rfl ?_
          refine ax_sip (pc' := 56) ⟨_, rfl⟩ (by decide) rfl ?_
          refine ax_callS (pc' := 59) ⟨_, rfl⟩ ml_12_307 (Nat.le_of_ble_eq_true rfl) (Nat.le_of_ble_eq_true rfl) rfl h (fun r4 V4 hg4 hr4 h => ?_)
          refine ax_mv 0 59 [some (.ref 222), some (ax_i x1), some (ax_i x2), some (ax_i x3), none] [ax_i r4] rfl ?_
          refine ax_if (p1 := 64) (p2 := 62) ⟨_, rfl⟩ (by decide) rfl hr4 (fun hc => ?_) (fun hc => ?_)
          · have h := h.2 hc
            refine ax_mv 1 65 [some (.ref 222), some (ax_i x1), some (ax_i x2), some (ax_i x3), none] [ax_i 0] rfl ?_
            refine ax_sti (i := 0) (k := 4) (n := 2) (pc' := 67) (L' := [some (.ref 222), some (ax_i x1), some (ax_i x2), some (ax_i x3), some (ax_i 0)]) ⟨_, rfl⟩ rfl rfl rfl (Nat.le_of_ble_eq_true rfl) rfl rfl ?_
            exact h
          · have h := h.1 (Classical.not_not.mp hc)
            refine ax_mv 1 63 [some (.ref 222), some (ax_i x1), some (ax_i x2), some (ax_i x3), none] [ax_i (-1)] rfl ?_
            exact ax_iret ⟨_, rfl⟩ rfl rfl (by decide) hg4 h
theorem r_Model_run {d : Nat} {V : ax_V} {Φ : Int → ax_V → Prop} {Θ : ax_V → Prop} {x1 : Int} (hg : ax_g V) (hx1 : ax_rg x1) (h : (∀ V1, V1 = ax_u V 222 0 0 → ((V1 222 113 = 0 → Φ (-1) V1) ∧ (¬ V1 222 113 = 0 → ((x1 = -1 → Φ (V1 222 120) V1) ∧ (¬ x1 = -1 → ((x1 = -2 → Φ (V1 222 115) V1) ∧ (¬ x1 = -2 → ax_I ay_lay d q_Model_within [ax_i x1, ax_i 0, ax_i ((V1 222 120) - 1)] V1 (fun r2 V2 => ((r2 = 0 → Φ (-1) V2) ∧ (¬ r2 = 0 → (0 ≤ x1 ∧ x1 < 301) ∧ Φ (V2 312 x1) V2))) (fun _ => False))))))))) : ax_I ay_lay (d + 1) q_Model_run [.ref 222, ax_i x1] V Φ Θ := by
  refine ax_T.of (M := m_Model_run) rfl (Nat.le_of_ble_eq_true rfl) ?_
  refine ax_mv 0 0 [some (.ref 222), some (ax_i x1)] [] rfl ?_
  refine ax_mv 2 2 [some (.ref 222), some (ax_i x1)] [ax_i 0, .ref 222] rfl ?_
  obtain ⟨V1, eV1⟩ : ∃ W9 : ax_V, W9 = ax_u V 222 0 0 := ⟨_, rfl⟩
  have h := h V1 eV1
  have hg1 : ax_g V1 := eV1 ▸ ax_u_g hg (by decide)
  refine ax_pI (kI := 0) (pc' := 5) ⟨_, rfl⟩ fl_12_285 ay_ok ay_222 rfl rfl rfl rfl eV1 rfl ?_
  refine ax_mv 1 6 [some (.ref 222), some (ax_i x1)] [.ref 222] rfl ?_
  refine ax_gI (kI := 113) (pc' := 9) ⟨_, rfl⟩ fl_12_700 ay_222 rfl rfl rfl ?_
  refine ax_if (p1 := 14) (p2 := 12) ⟨_, rfl⟩ (by decide) rfl (hg1 _ _) (fun hc => ?_) (fun hc => ?_)
  · have h := h.2 hc
    refine ax_mv 2 16 [some (.ref 222), some (ax_i x1)] [ax_i (-1), ax_i x1] rfl ?_
    refine ax_if2 (p1 := 24) (p2 := 19) ⟨_, rfl⟩ (by decide) rfl hx1 (by decide) (fun hc => ?_) (fun hc => ?_)
    · have h := h.2 hc
      refine ax_mv 1 25 [some (.ref 222), some (ax_i x1)] [ax_i x1] rfl ?_
      refine ax_bip (pc' := 27) ⟨_, rfl⟩ (by decide) rfl ?_
      refine ax_if2 (p1 := 35) (p2 := 30) ⟨_, rfl⟩ (by decide) rfl hx1 (by decide) (fun hc => ?_) (fun hc => ?_)
      · have h := h.2 hc
        refine ax_mv 3 38 [some (.ref 222), some (ax_i x1)] [.ref 222, ax_i 0, ax_i x1] rfl ?_
        refine ax_gI (kI := 120) (pc' := 41) ⟨_, rfl⟩ fl_12_697 ay_222 rfl rfl rfl ?_
        refine ax_mv 1 42 [some (.ref 222), some (ax_i x1)] [ax_i 1, ax_i (V1 222 120), ax_i 0, ax_i x1] rfl ?_
        refine ax_sub (pc' := 43) ⟨_, rfl⟩ rfl ?_
        refine ax_callS (pc' := 46) ⟨_, rfl⟩ ml_12_307 (Nat.le_of_ble_eq_true rfl) (Nat.le_of_ble_eq_true rfl) rfl h (fun r2 V2 hg2 hr2 h => ?_)
        refine ax_mv 0 46 [some (.ref 222), some (ax_i x1)] [ax_i r2] rfl ?_
        refine ax_if (p1 := 58) (p2 := 49) ⟨_, rfl⟩ (by decide) rfl hr2 (fun hc => ?_) (fun hc => ?_)
        · have h := h.1 hc
          refine ax_mv 1 59 [some (.ref 222), some (ax_i x1)] [ax_i (-1)] rfl ?_
          exact ax_iret ⟨_, rfl⟩ rfl rfl (by decide) hg2 h
        · have h := h.2 hc
          refine ax_mv 1 50 [some (.ref 222), some (ax_i x1)] [.ref 222] rfl ?_
          refine ax_gR (v := .ref 312) (pc' := 53) ⟨_, rfl⟩ fl_12_279 ay_222 rfl rfl ?_
          refine ax_mv 1 54 [some (.ref 222), some (ax_i x1)] [ax_i x1, .ref 312] rfl ?_
          obtain ⟨o1, h⟩ := h
          refine ax_ild (n := 301) (pc' := 55) ⟨_, rfl⟩ ay_312 (by decide) o1 rfl ?_
          refine ax_mv 1 59 [some (.ref 222), some (ax_i x1)] [ax_i (V2 312 x1)] rfl ?_
          exact ax_iret ⟨_, rfl⟩ rfl rfl (hg2 _ _) hg2 h
      · have h := h.1 (Classical.not_not.mp hc)
        refine ax_mv 1 31 [some (.ref 222), some (ax_i x1)] [.ref 222] rfl ?_
        refine ax_gI (kI := 115) (pc' := 34) ⟨_, rfl⟩ fl_12_688 ay_222 rfl rfl rfl ?_
        exact ax_iret ⟨_, rfl⟩ rfl rfl (hg1 _ _) hg1 h
    · have h := h.1 (Classical.not_not.mp hc)
      refine ax_mv 1 20 [some (.ref 222), some (ax_i x1)] [.ref 222] rfl ?_
      refine ax_gI (kI := 120) (pc' := 23) ⟨_, rfl⟩ fl_12_697 ay_222 rfl rfl rfl ?_
      exact ax_iret ⟨_, rfl⟩ rfl rfl (hg1 _ _) hg1 h
  · have h := h.1 (Classical.not_not.mp hc)
    refine ax_mv 1 13 [some (.ref 222), some (ax_i x1)] [ax_i (-1)] rfl ?_
    exact ax_iret ⟨_, rfl⟩ rfl rfl (by decide) hg1 h
theorem r_Model_total {d : Nat} {V : ax_V} {Φ : Int → ax_V → Prop} {Θ : ax_V → Prop} {x1 : Int} (hg : ax_g V) (hx1 : ax_rg x1) (h : (∀ V1, V1 = ax_u V 222 0 0 → ((x1 = 0 → ((V1 222 7 = 0 → Φ 0 V1) ∧ (¬ V1 222 7 = 0 → Φ (V1 222 86) V1))) ∧ (¬ x1 = 0 → ((x1 = 1 → Φ (V1 222 1) V1) ∧ (¬ x1 = 1 → ((x1 = 2 → Φ (V1 222 102) V1) ∧ (¬ x1 = 2 → Φ (-1) V1)))))))) : ax_I ay_lay (d + 1) q_Model_total [.ref 222, ax_i x1] V Φ Θ := by
  refine ax_T.of (M := m_Model_total) rfl (Nat.le_of_ble_eq_true rfl) ?_
  refine ax_mv 0 0 [some (.ref 222), some (ax_i x1)] [] rfl ?_
  refine ax_mv 2 2 [some (.ref 222), some (ax_i x1)] [ax_i 0, .ref 222] rfl ?_
  obtain ⟨V1, eV1⟩ : ∃ W9 : ax_V, W9 = ax_u V 222 0 0 := ⟨_, rfl⟩
  have h := h V1 eV1
  have hg1 : ax_g V1 := eV1 ▸ ax_u_g hg (by decide)
  refine ax_pI (kI := 0) (pc' := 5) ⟨_, rfl⟩ fl_12_285 ay_ok ay_222 rfl rfl rfl rfl eV1 rfl ?_
  refine ax_mv 1 6 [some (.ref 222), some (ax_i x1)] [ax_i x1] rfl ?_
  refine ax_if (p1 := 27) (p2 := 9) ⟨_, rfl⟩ (by decide) rfl hx1 (fun hc => ?_) (fun hc => ?_)
  · have h := h.2 hc
    refine ax_mv 2 29 [some (.ref 222), some (ax_i x1)] [ax_i 1, ax_i x1] rfl ?_
    refine ax_if2 (p1 := 39) (p2 := 32) ⟨_, rfl⟩ (by decide) rfl hx1 (by decide) (fun hc => ?_) (fun hc => ?_)
    · have h := h.2 hc
      refine ax_mv 2 41 [some (.ref 222), some (ax_i x1)] [ax_i 2, ax_i x1] rfl ?_
      refine ax_if2 (p1 := 51) (p2 := 44) ⟨_, rfl⟩ (by decide) rfl hx1 (by decide) (fun hc => ?_) (fun hc => ?_)
      · have h := h.2 hc
        refine ax_mv 1 52 [some (.ref 222), some (ax_i x1)] [ax_i (-1)] rfl ?_
        exact ax_iret ⟨_, rfl⟩ rfl rfl (by decide) hg1 h
      · have h := h.1 (Classical.not_not.mp hc)
        refine ax_mv 1 45 [some (.ref 222), some (ax_i x1)] [.ref 222] rfl ?_
        refine ax_gI (kI := 102) (pc' := 48) ⟨_, rfl⟩ fl_12_616 ay_222 rfl rfl rfl ?_
        refine ax_mv 1 52 [some (.ref 222), some (ax_i x1)] [ax_i (V1 222 102)] rfl ?_
        exact ax_iret ⟨_, rfl⟩ rfl rfl (hg1 _ _) hg1 h
    · have h := h.1 (Classical.not_not.mp hc)
      refine ax_mv 1 33 [some (.ref 222), some (ax_i x1)] [.ref 222] rfl ?_
      refine ax_gI (kI := 1) (pc' := 36) ⟨_, rfl⟩ fl_12_289 ay_222 rfl rfl rfl ?_
      refine ax_mv 1 52 [some (.ref 222), some (ax_i x1)] [ax_i (V1 222 1)] rfl ?_
      exact ax_iret ⟨_, rfl⟩ rfl rfl (hg1 _ _) hg1 h
  · have h := h.1 (Classical.not_not.mp hc)
    refine ax_mv 1 10 [some (.ref 222), some (ax_i x1)] [.ref 222] rfl ?_
    refine ax_gI (kI := 7) (pc' := 13) ⟨_, rfl⟩ fl_12_610 ay_222 rfl rfl rfl ?_
    refine ax_if (p1 := 23) (p2 := 16) ⟨_, rfl⟩ (by decide) rfl (hg1 _ _) (fun hc => ?_) (fun hc => ?_)
    · have h := h.1 hc
      refine ax_mv 2 52 [some (.ref 222), some (ax_i x1)] [ax_i 0] rfl ?_
      exact ax_iret ⟨_, rfl⟩ rfl rfl (by decide) hg1 h
    · have h := h.2 hc
      refine ax_mv 1 17 [some (.ref 222), some (ax_i x1)] [.ref 222] rfl ?_
      refine ax_gI (kI := 86) (pc' := 20) ⟨_, rfl⟩ fl_12_444 ay_222 rfl rfl rfl ?_
      refine ax_mv 1 52 [some (.ref 222), some (ax_i x1)] [ax_i (V1 222 86)] rfl ?_
      exact ax_iret ⟨_, rfl⟩ rfl rfl (hg1 _ _) hg1 h
