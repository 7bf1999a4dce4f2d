/-! RULES of the model's methods: a method each, and each loop of it. PRINTED by wip/gen/rules.py -/
abbrev k_Model_isSeen_2 (d : Nat) (x1 : Int) (y2 : Option Value) (y3 : Option Value) (V : ax_V) (Φ : Int → ax_V → Prop) (Θ : ax_V → Prop) : Prop := ax_R ay_lay ax_t d m_Model_isSeen 2 [some (.ref 222), some (ax_i x1), y2, y3] [] V (ax_Ir Φ) Θ
abbrev k_Model_isSeen_14 (d : Nat) (x1 : Int) (x2 : Int) (x3 : Int) (V : ax_V) (Φ : Int → ax_V → Prop) (Θ : ax_V → Prop) : Prop := ax_R ay_lay ax_t d m_Model_isSeen 14 [some (.ref 222), some (ax_i x1), some (ax_i x2), some (ax_i x3)] [] V (ax_Ir Φ) Θ
theorem r_Model_isSeen_2 {d : Nat} {V : ax_V} {Φ : Int → ax_V → Prop} {Θ : ax_V → Prop} {x1 : Int} {y2 : Option Value} {y3 : Option Value} (hg : ax_g V) (hx1 : ax_rg x1) (hy2 : ax_y y2) (hy3 : ax_y y3) (h : ((V 222 115 ≤ x1 → Φ 0 V) ∧ (x1 < V 222 115 → k_Model_isSeen_14 d x1 1 0 V Φ Θ))) : k_Model_isSeen_2 d x1 y2 y3 V Φ Θ := by
  refine ax_mv 2 4 [some (.ref 222), some (ax_i x1), y2, y3] [.ref 222, ax_i x1] rfl ?_
  refine ax_gI (kI := 115) (pc' := 7) ⟨_, rfl⟩ fl_12_688 ay_222 rfl rfl rfl ?_
  refine ax_if2 (p1 := 71) (p2 := 10) ⟨_, rfl⟩ (by decide) rfl hx1 (hg _ _) (fun hc => ?_) (fun hc => ?_)
  · have h := h.1 hc
    refine ax_mv 1 72 [some (.ref 222), some (ax_i x1), y2, y3] [ax_i 0] rfl ?_
    exact ax_iret ⟨_, rfl⟩ rfl (ax_nbv (by decide)) (by decide) hg h
  · have h := h.2 (Int.not_le.mp hc)
    refine ax_mv 1 11 [some (.ref 222), some (ax_i x1), y2, y3] [ax_i 1] rfl ?_
    refine ax_sti (i := 0) (k := 2) (n := 1) (pc' := 12) (L' := [some (.ref 222), some (ax_i x1), some (ax_i 1), y3]) ⟨_, rfl⟩ rfl rfl rfl (Nat.le_of_ble_eq_true rfl) rfl rfl ?_
    refine ax_mv 1 13 [some (.ref 222), some (ax_i x1), some (ax_i 1), y3] [ax_i 0] rfl ?_
    refine ax_sti (i := 0) (k := 3) (n := 1) (pc' := 14) (L' := [some (.ref 222), some (ax_i x1), some (ax_i 1), some (ax_i 0)]) ⟨_, rfl⟩ rfl rfl rfl (Nat.le_of_ble_eq_true rfl) rfl rfl ?_
    exact h
theorem r_Model_isSeen_14 {d : Nat} {V : ax_V} {Φ : Int → ax_V → Prop} {Θ : ax_V → Prop} {x1 : Int} {x2 : Int} {x3 : Int} (hg : ax_g V) (hx1 : ax_rg x1) (hx2 : ax_rg x2) (hx3 : ax_rg x3) (h : ((V 222 116 ≤ x3 → ((x2 = 0 → k_Model_isSeen_2 d (x1 + 1) (some (ax_i x2)) (some (ax_i x3)) V Φ Θ) ∧ (¬ x2 = 0 → Φ 1 V))) ∧ (x3 < V 222 116 → ((x2 = 0 → ((x2 = 0 → k_Model_isSeen_2 d (x1 + 1) (some (ax_i x2)) (some (ax_i x3)) V Φ Θ) ∧ (¬ x2 = 0 → Φ 1 V))) ∧ (¬ x2 = 0 → (0 ≤ (600 * x1) + x3 ∧ (600 * x1) + x3 < 180000) ∧ (0 ≤ x3 ∧ x3 < 600) ∧ ((V 309 ((600 * x1) + x3) = V 292 x3 → k_Model_isSeen_14 d x1 1 (x3 + 1) V Φ Θ) ∧ (¬ V 309 ((600 * x1) + x3) = V 292 x3 → k_Model_isSeen_14 d x1 0 (x3 + 1) V Φ Θ))))))) : k_Model_isSeen_14 d x1 x2 x3 V Φ Θ := by
  refine ax_mv 2 16 [some (.ref 222), some (ax_i x1), some (ax_i x2), some (ax_i x3)] [.ref 222, ax_i x3] rfl ?_
  refine ax_gI (kI := 116) (pc' := 19) ⟨_, rfl⟩ fl_12_685 ay_222 rfl rfl rfl ?_
  refine ax_if2 (p1 := 59) (p2 := 22) ⟨_, rfl⟩ (by decide) rfl hx3 (hg _ _) (fun hc => ?_) (fun hc => ?_)
  · have h := h.1 hc
    refine ax_mv 1 60 [some (.ref 222), some (ax_i x1), some (ax_i x2), some (ax_i x3)] [ax_i x2] rfl ?_
    refine ax_if (p1 := 65) (p2 := 63) ⟨_, rfl⟩ (by decide) rfl hx2 (fun hc => ?_) (fun hc => ?_)
    · have h := h.1 hc
      refine ax_inc (x := x1) (pc' := 68) (L' := [some (.ref 222), some (ax_i (x1 + 1)), some (ax_i x2), some (ax_i x3)]) ⟨_, rfl⟩ rfl rfl rfl rfl ?_
      refine ax_mv 1 2 [some (.ref 222), some (ax_i (x1 + 1)), some (ax_i x2), some (ax_i x3)] [] rfl ?_
      exact h
    · have h := h.2 hc
      refine ax_mv 1 64 [some (.ref 222), some (ax_i x1), some (ax_i x2), some (ax_i x3)] [ax_i 1] rfl ?_
      exact ax_iret ⟨_, rfl⟩ rfl (ax_nbv (by decide)) (by decide) hg h
  · have h := h.2 (Int.not_le.mp hc)
    refine ax_mv 1 23 [some (.ref 222), some (ax_i x1), some (ax_i x2), some (ax_i x3)] [ax_i x2] rfl ?_
    refine ax_if (p1 := 59) (p2 := 26) ⟨_, rfl⟩ (by decide) rfl hx2 (fun hc => ?_) (fun hc => ?_)
    · have h := h.1 hc
      refine ax_mv 1 60 [some (.ref 222), some (ax_i x1), some (ax_i x2), some (ax_i x3)] [ax_i x2] rfl ?_
      refine ax_if (p1 := 65) (p2 := 63) ⟨_, rfl⟩ (by decide) rfl hx2 (fun hc => ?_) (fun hc => ?_)
      · have h := h.1 hc
        refine ax_inc (x := x1) (pc' := 68) (L' := [some (.ref 222), some (ax_i (x1 + 1)), some (ax_i x2), some (ax_i x3)]) ⟨_, rfl⟩ rfl rfl rfl rfl ?_
        refine ax_mv 1 2 [some (.ref 222), some (ax_i (x1 + 1)), some (ax_i x2), some (ax_i x3)] [] rfl ?_
        exact h
      · have h := h.2 hc
        refine ax_mv 1 64 [some (.ref 222), some (ax_i x1), some (ax_i x2), some (ax_i x3)] [ax_i 1] rfl ?_
        exact ax_iret ⟨_, rfl⟩ rfl (ax_nbv (by decide)) (by decide) hg h
    · have h := h.2 hc
      refine ax_mv 1 27 [some (.ref 222), some (ax_i x1), some (ax_i x2), some (ax_i x3)] [.ref 222] rfl ?_
      refine ax_gR (v := .ref 309) (pc' := 30) ⟨_, rfl⟩ fl_12_270 ay_222 rfl rfl ?_
      refine ax_sip (pc' := 33) ⟨_, rfl⟩ (by decide) rfl ?_
      refine ax_mv 1 34 [some (.ref 222), some (ax_i x1), some (ax_i x2), some (ax_i x3)] [ax_i x1, ax_i 600, .ref 309] rfl ?_
      refine ax_mul (pc' := 35) ⟨_, rfl⟩ rfl ?_
      refine ax_mv 1 36 [some (.ref 222), some (ax_i x1), some (ax_i x2), some (ax_i x3)] [ax_i x3, ax_i (600 * x1), .ref 309] rfl ?_
      refine ax_add (pc' := 37) ⟨_, rfl⟩ rfl ?_
      obtain ⟨o1, h⟩ := h
      refine ax_ild (n := 180000) (pc' := 38) ⟨_, rfl⟩ ay_309 (by decide) o1 rfl ?_
      refine ax_mv 1 39 [some (.ref 222), some (ax_i x1), some (ax_i x2), some (ax_i x3)] [.ref 222, ax_i (V 309 ((600 * x1) + x3))] rfl ?_
      refine ax_gR (v := .ref 292) (pc' := 42) ⟨_, rfl⟩ fl_12_218 ay_222 rfl rfl ?_
      refine ax_mv 1 43 [some (.ref 222), some (ax_i x1), some (ax_i x2), some (ax_i x3)] [ax_i x3, .ref 292, ax_i (V 309 ((600 * x1) + x3))] rfl ?_
      obtain ⟨o2, h⟩ := h
      refine ax_ild (n := 600) (pc' := 44) ⟨_, rfl⟩ ay_292 (by decide) o2 rfl ?_
      refine ax_if2 (p1 := 51) (p2 := 47) ⟨_, rfl⟩ (by decide) rfl (hg _ _) (hg _ _) (fun hc => ?_) (fun hc => ?_)
      · have h := h.2 hc
        refine ax_mv 1 52 [some (.ref 222), some (ax_i x1), some (ax_i x2), some (ax_i x3)] [ax_i 0] rfl ?_
        refine ax_sti (i := 0) (k := 2) (n := 1) (pc' := 53) (L' := [some (.ref 222), some (ax_i x1), some (ax_i 0), some (ax_i x3)]) ⟨_, rfl⟩ rfl rfl rfl (Nat.le_of_ble_eq_true rfl) rfl rfl ?_
        refine ax_inc (x := x3) (pc' := 56) (L' := [some (.ref 222), some (ax_i x1), some (ax_i 0), some (ax_i (x3 + 1))]) ⟨_, rfl⟩ rfl rfl rfl rfl ?_
        refine ax_mv 1 14 [some (.ref 222), some (ax_i x1), some (ax_i 0), some (ax_i (x3 + 1))] [] rfl ?_
        exact h
      · have h := h.1 (Classical.not_not.mp hc)
        refine ax_mv 2 52 [some (.ref 222), some (ax_i x1), some (ax_i x2), some (ax_i x3)] [ax_i 1] rfl ?_
        refine ax_sti (i := 0) (k := 2) (n := 1) (pc' := 53) (L' := [some (.ref 222), some (ax_i x1), some (ax_i 1), some (ax_i x3)]) ⟨_, rfl⟩ rfl rfl rfl (Nat.le_of_ble_eq_true rfl) rfl rfl ?_
        refine ax_inc (x := x3) (pc' := 56) (L' := [some (.ref 222), some (ax_i x1), some (ax_i 1), some (ax_i (x3 + 1))]) ⟨_, rfl⟩ rfl rfl rfl rfl ?_
        refine ax_mv 1 14 [some (.ref 222), some (ax_i x1), some (ax_i 1), some (ax_i (x3 + 1))] [] rfl ?_
        exact h
theorem r_Model_isSeen {d : Nat} {V : ax_V} {Φ : Int → ax_V → Prop} {Θ : ax_V → Prop} (hg : ax_g V) (h : k_Model_isSeen_2 d 0 none none V Φ Θ) : ax_I ay_lay (d + 1) q_Model_isSeen [.ref 222] V Φ Θ := by
  refine ax_T.of (M := m_Model_isSeen) rfl (Nat.le_of_ble_eq_true rfl) ?_
  refine ax_mv 0 0 [some (.ref 222), none, none, none] [] rfl ?_
  refine ax_mv 1 1 [some (.ref 222), none, none, none] [ax_i 0] rfl ?_
  refine ax_sti (i := 0) (k := 1) (n := 1) (pc' := 2) (L' := [some (.ref 222), some (ax_i 0), none, none]) ⟨_, rfl⟩ rfl rfl rfl (Nat.le_of_ble_eq_true rfl) rfl rfl ?_
  exact h
abbrev k_Model_alike_67 (d : Nat) (x1 : Int) (x2 : Int) (x3 : Int) (x4 : Int) (V : ax_V) (Φ : Int → ax_V → Prop) (Θ : ax_V → Prop) : Prop := ax_R ay_lay ax_t d m_Model_alike 67 [some (.ref 222), some (ax_i x1), some (ax_i x2), some (ax_i x3), some (ax_i x4)] [] V (ax_Ir Φ) Θ
theorem r_Model_alike_67 {d : Nat} {V : ax_V} {Φ : Int → ax_V → Prop} {Θ : ax_V → Prop} {x1 : Int} {x2 : Int} {x3 : Int} {x4 : Int} (hg : ax_g V) (hx1 : ax_rg x1) (hx2 : ax_rg x2) (hx3 : ax_rg x3) (hx4 : ax_rg x4) (h : (0 ≤ x1 ∧ x1 < 9) ∧ ((V 228 x1 ≤ x4 → ax_I ay_lay d q_Model_search [.ref 222, ax_i x1, ax_i 0, ax_i x2, ax_i x3] V (fun r1 V1 => (∀ V2, V2 = ax_u V1 222 114 r1 → Φ (V2 222 114) V2)) Θ) ∧ (x4 < V 228 x1 → (0 ≤ (26 * x1) + x4 ∧ (26 * x1) + x4 < 240) ∧ (0 ≤ (26 * x1) + (V 231 ((26 * x1) + x4)) ∧ (26 * x1) + (V 231 ((26 * x1) + x4)) < 240) ∧ (0 ≤ (26 * x2) + x4 ∧ (26 * x2) + x4 < 240) ∧ (0 ≤ (26 * x2) + (V 231 ((26 * x2) + x4)) ∧ (26 * x2) + (V 231 ((26 * x2) + x4)) < 240) ∧ ((V 233 ((26 * x1) + (V 231 ((26 * x1) + x4))) = V 233 ((26 * x2) + (V 231 ((26 * x2) + x4))) → k_Model_alike_67 d x1 x2 x3 (x4 + 1) V Φ Θ) ∧ (¬ V 233 ((26 * x1) + (V 231 ((26 * x1) + x4))) = V 233 ((26 * x2) + (V 231 ((26 * x2) + x4))) → Φ (-1) V))))) : k_Model_alike_67 d x1 x2 x3 x4 V Φ Θ := by
  refine ax_mv 2 70 [some (.ref 222), some (ax_i x1), some (ax_i x2), some (ax_i x3), some (ax_i x4)] [.ref 222, ax_i x4] rfl ?_
  refine ax_gR (v := .ref 228) (pc' := 73) ⟨_, rfl⟩ fl_12_25 ay_222 rfl rfl ?_
  refine ax_mv 1 74 [some (.ref 222), some (ax_i x1), some (ax_i x2), some (ax_i x3), some (ax_i x4)] [ax_i x1, .ref 228, ax_i x4] rfl ?_
  obtain ⟨o1, h⟩ := h
  refine ax_ild (n := 9) (pc' := 75) ⟨_, rfl⟩ ay_228 (by decide) o1 rfl ?_
  refine ax_if2 (p1 := 133) (p2 := 78) ⟨_, rfl⟩ (by decide) rfl hx4 (hg _ _) (fun hc => ?_) (fun hc => ?_)
  · have h := h.1 hc
    refine ax_mv 6 139 [some (.ref 222), some (ax_i x1), some (ax_i x2), some (ax_i x3), some (ax_i x4)] [ax_i x3, ax_i x2, ax_i 0, ax_i x1, .ref 222, .ref 222] rfl ?_
    refine ax_callI (pc' := 142) ⟨_, rfl⟩ ml_12_724 (rest := [.ref 222]) rfl (fun ss hs => ⟨_, _, ay_222 ss hs⟩) (Nat.le_of_ble_eq_true rfl) rfl rfl h (fun r1 V1 hg1 hr1 h => ?_)
    obtain ⟨V2, eV2⟩ : ∃ W9 : ax_V, W9 = ax_u V1 222 114 r1 := ⟨_, rfl⟩
    have h := h V2 eV2
    have hg2 : ax_g V2 := eV2 ▸ ax_u_g hg1 hr1
    refine ax_pI (kI := 114) (pc' := 145) ⟨_, rfl⟩ fl_12_728 ay_ok ay_222 rfl rfl rfl rfl eV2 rfl ?_
    refine ax_mv 1 146 [some (.ref 222), some (ax_i x1), some (ax_i x2), some (ax_i x3), some (ax_i x4)] [.ref 222] rfl ?_
    refine ax_gI (kI := 114) (pc' := 149) ⟨_, rfl⟩ fl_12_728 ay_222 rfl rfl rfl ?_
    exact ax_iret ⟨_, rfl⟩ rfl rfl (hg2 _ _) hg2 h
  · have h := h.2 (Int.not_le.mp hc)
    refine ax_mv 1 79 [some (.ref 222), some (ax_i x1), some (ax_i x2), some (ax_i x3), some (ax_i x4)] [.ref 222] rfl ?_
    refine ax_gR (v := .ref 233) (pc' := 82) ⟨_, rfl⟩ fl_12_40 ay_222 rfl rfl ?_
    refine ax_bip (pc' := 84) ⟨_, rfl⟩ (by decide) rfl ?_
    refine ax_mv 1 85 [some (.ref 222), some (ax_i x1), some (ax_i x2), some (ax_i x3), some (ax_i x4)] [ax_i x1, ax_i 26, .ref 233] rfl ?_
    refine ax_mul (pc' := 86) ⟨_, rfl⟩ rfl ?_
    refine ax_mv 1 87 [some (.ref 222), some (ax_i x1), some (ax_i x2), some (ax_i x3), some (ax_i x4)] [.ref 222, ax_i (26 * x1), .ref 233] rfl ?_
    refine ax_gR (v := .ref 231) (pc' := 90) ⟨_, rfl⟩ fl_12_34 ay_222 rfl rfl ?_
    refine ax_bip (pc' := 92) ⟨_, rfl⟩ (by decide) rfl ?_
    refine ax_mv 1 93 [some (.ref 222), some (ax_i x1), some (ax_i x2), some (ax_i x3), some (ax_i x4)] [ax_i x1, ax_i 26, .ref 231, ax_i (26 * x1), .ref 233] rfl ?_
    refine ax_mul (pc' := 94) ⟨_, rfl⟩ rfl ?_
    refine ax_mv 1 96 [some (.ref 222), some (ax_i x1), some (ax_i x2), some (ax_i x3), some (ax_i x4)] [ax_i x4, ax_i (26 * x1), .ref 231, ax_i (26 * x1), .ref 233] rfl ?_
    refine ax_add (pc' := 97) ⟨_, rfl⟩ rfl ?_
    obtain ⟨o2, h⟩ := h
    refine ax_ild (n := 240) (pc' := 98) ⟨_, rfl⟩ ay_231 (by decide) o2 rfl ?_
    refine ax_add (pc' := 99) ⟨_, rfl⟩ rfl ?_
    obtain ⟨o3, h⟩ := h
    refine ax_ild (n := 240) (pc' := 100) ⟨_, rfl⟩ ay_233 (by decide) o3 rfl ?_
    refine ax_mv 1 101 [some (.ref 222), some (ax_i x1), some (ax_i x2), some (ax_i x3), some (ax_i x4)] [.ref 222, ax_i (V 233 ((26 * x1) + (V 231 ((26 * x1) + x4))))] rfl ?_
    refine ax_gR (v := .ref 233) (pc' := 104) ⟨_, rfl⟩ fl_12_40 ay_222 rfl rfl ?_
    refine ax_bip (pc' := 106) ⟨_, rfl⟩ (by decide) rfl ?_
    refine ax_mv 1 107 [some (.ref 222), some (ax_i x1), some (ax_i x2), some (ax_i x3), some (ax_i x4)] [ax_i x2, ax_i 26, .ref 233, ax_i (V 233 ((26 * x1) + (V 231 ((26 * x1) + x4))))] rfl ?_
    refine ax_mul (pc' := 108) ⟨_, rfl⟩ rfl ?_
    refine ax_mv 1 109 [some (.ref 222), some (ax_i x1), some (ax_i x2), some (ax_i x3), some (ax_i x4)] [.ref 222, ax_i (26 * x2), .ref 233, ax_i (V 233 ((26 * x1) + (V 231 ((26 * x1) + x4))))] rfl ?_
    refine ax_gR (v := .ref 231) (pc' := 112) ⟨_, rfl⟩ fl_12_34 ay_222 rfl rfl ?_
    refine ax_bip (pc' := 114) ⟨_, rfl⟩ (by decide) rfl ?_
    refine ax_mv 1 115 [some (.ref 222), some (ax_i x1), some (ax_i x2), some (ax_i x3), some (ax_i x4)] [ax_i x2, ax_i 26, .ref 231, ax_i (26 * x2), .ref 233, ax_i (V 233 ((26 * x1) + (V 231 ((26 * x1) + x4))))] rfl ?_
    refine ax_mul (pc' := 116) ⟨_, rfl⟩ rfl ?_
    refine ax_mv 1 118 [some (.ref 222), some (ax_i x1), some (ax_i x2), some (ax_i x3), some (ax_i x4)] [ax_i x4, ax_i (26 * x2), .ref 231, ax_i (26 * x2), .ref 233, ax_i (V 233 ((26 * x1) + (V 231 ((26 * x1) + x4))))] rfl ?_
    refine ax_add (pc' := 119) ⟨_, rfl⟩ rfl ?_
    obtain ⟨o4, h⟩ := h
    refine ax_ild (n := 240) (pc' := 120) ⟨_, rfl⟩ ay_231 (by decide) o4 rfl ?_
    refine ax_add (pc' := 121) ⟨_, rfl⟩ rfl ?_
    obtain ⟨o5, h⟩ := h
    refine ax_ild (n := 240) (pc' := 122) ⟨_, rfl⟩ ay_233 (by decide) o5 rfl ?_
    refine ax_if2 (p1 := 127) (p2 := 125) ⟨_, rfl⟩ (by decide) rfl (hg _ _) (hg _ _) (fun hc => ?_) (fun hc => ?_)
    · have h := h.1 hc
      refine ax_inc (x := x4) (pc' := 130) (L' := [some (.ref 222), some (ax_i x1), some (ax_i x2), some (ax_i x3), some (ax_i (x4 + 1))]) ⟨_, rfl⟩ rfl rfl rfl rfl ?_
      refine ax_mv 1 67 [some (.ref 222), some (ax_i x1), some (ax_i x2), some (ax_i x3), some (ax_i (x4 + 1))] [] rfl ?_
      exact h
    · have h := h.2 hc
      refine ax_mv 1 126 [some (.ref 222), some (ax_i x1), some (ax_i x2), some (ax_i x3), some (ax_i x4)] [ax_i (-1)] rfl ?_
      exact ax_iret ⟨_, rfl⟩ rfl rfl (by decide) hg h
theorem r_Model_alike {d : Nat} {V : ax_V} {Φ : Int → ax_V → Prop} {Θ : ax_V → Prop} {x1 : Int} {x2 : Int} {x3 : Int} (hg : ax_g V) (hx1 : ax_rg x1) (hx2 : ax_rg x2) (hx3 : ax_rg x3) (h : (∀ V1, V1 = ax_u V 222 0 0 → ax_I ay_lay d q_Model_canBeFed [.ref 222, ax_i x1] V1 (fun r2 V2 => ((r2 = 0 → Φ (-1) V2) ∧ (¬ r2 = 0 → ax_I ay_lay d q_Model_canBeFed [.ref 222, ax_i x2] V2 (fun r3 V3 => ((r3 = 0 → Φ (-1) V3) ∧ (¬ r3 = 0 → (0 ≤ x1 ∧ x1 < 9) ∧ (0 ≤ x2 ∧ x2 < 9) ∧ ((V3 227 x1 = V3 227 x2 → (0 ≤ x1 ∧ x1 < 9) ∧ (0 ≤ x2 ∧ x2 < 9) ∧ ((V3 228 x1 = V3 228 x2 → ax_I ay_lay d q_Model_within [ax_i x3, ax_i 1, ax_i 300] V3 (fun r4 V4 => ((r4 = 0 → Φ (-1) V4) ∧ (¬ r4 = 0 → k_Model_alike_67 d x1 x2 x3 0 V4 Φ Θ))) (fun _ => False)) ∧ (¬ V3 228 x1 = V3 228 x2 → Φ (-1) V3))) ∧ (¬ V3 227 x1 = V3 227 x2 → Φ (-1) V3))))) Θ))) Θ)) : ax_I ay_lay (d + 1) q_Model_alike [.ref 222, ax_i x1, ax_i x2, ax_i x3] V Φ Θ := by
  refine ax_T.of (M := m_Model_alike) rfl (Nat.le_of_ble_eq_true rfl) ?_
  refine ax_mv 0 0 [some (.ref 222), some (ax_i x1), some (ax_i x2), some (ax_i x3), none] [] rfl ?_
  refine ax_mv 2 2 [some (.ref 222), some (ax_i x1), some (ax_i x2), some (ax_i x3), none] [ax_i 0, .ref 222] rfl ?_
  obtain ⟨V1, eV1⟩ : ∃ W9 : ax_V, W9 = ax_u V 222 0 0 := ⟨_, rfl⟩
  have h := h V1 eV1
  have hg1 : ax_g V1 := eV1 ▸ ax_u_g hg (by decide)
  refine ax_pI (kI := 0) (pc' := 5) ⟨_, rfl⟩ fl_12_285 ay_ok ay_222 rfl rfl rfl rfl eV1 rfl ?_
  refine ax_mv 2 7 [some (.ref 222), some (ax_i x1), some (ax_i x2), some (ax_i x3), none] [ax_i x1, .ref 222] rfl ?_
  refine ax_callI (pc' := 10) ⟨_, rfl⟩ ml_12_721 (rest := []) rfl (fun ss hs => ⟨_, _, ay_222 ss hs⟩) (Nat.le_of_ble_eq_true rfl) rfl rfl h (fun r2 V2 hg2 hr2 h => ?_)
  refine ax_if (p1 := 62) (p2 := 13) ⟨_, rfl⟩ (by decide) rfl hr2 (fun hc => ?_) (fun hc => ?_)
  · have h := h.1 hc
    refine ax_mv 1 63 [some (.ref 222), some (ax_i x1), some (ax_i x2), some (ax_i x3), none] [ax_i (-1)] rfl ?_
    exact ax_iret ⟨_, rfl⟩ rfl rfl (by decide) hg2 h
  · have h := h.2 hc
    refine ax_mv 2 15 [some (.ref 222), some (ax_i x1), some (ax_i x2), some (ax_i x3), none] [ax_i x2, .ref 222] rfl ?_
    refine ax_callI (pc' := 18) ⟨_, rfl⟩ ml_12_721 (rest := []) rfl (fun ss hs => ⟨_, _, ay_222 ss hs⟩) (Nat.le_of_ble_eq_true rfl) rfl rfl h (fun r3 V3 hg3 hr3 h => ?_)
    refine ax_if (p1 := 62) (p2 := 21) ⟨_, rfl⟩ (by decide) rfl hr3 (fun hc => ?_) (fun hc => ?_)
    · have h := h.1 hc
      refine ax_mv 1 63 [some (.ref 222), some (ax_i x1), some (ax_i x2), some (ax_i x3), none] [ax_i (-1)] rfl ?_
      exact ax_iret ⟨_, rfl⟩ rfl rfl (by decide) hg3 h
    · have h := h.2 hc
      refine ax_mv 1 22 [some (.ref 222), some (ax_i x1), some (ax_i x2), some (ax_i x3), none] [.ref 222] rfl ?_
      refine ax_gR (v := .ref 227) (pc' := 25) ⟨_, rfl⟩ fl_12_22 ay_222 rfl rfl ?_
      refine ax_mv 1 26 [some (.ref 222), some (ax_i x1), some (ax_i x2), some (ax_i x3), none] [ax_i x1, .ref 227] rfl ?_
      obtain ⟨o6, h⟩ := h
      refine ax_ild (n := 9) (pc' := 27) ⟨_, rfl⟩ ay_227 (by decide) o6 rfl ?_
      refine ax_mv 1 28 [some (.ref 222), some (ax_i x1), some (ax_i x2), some (ax_i x3), none] [.ref 222, ax_i (V3 227 x1)] rfl ?_
      refine ax_gR (v := .ref 227) (pc' := 31) ⟨_, rfl⟩ fl_12_22 ay_222 rfl rfl ?_
      refine ax_mv 1 32 [some (.ref 222), some (ax_i x1), some (ax_i x2), some (ax_i x3), none] [ax_i x2, .ref 227, ax_i (V3 227 x1)] rfl ?_
      obtain ⟨o7, h⟩ := h
      refine ax_ild (n := 9) (pc' := 33) ⟨_, rfl⟩ ay_227 (by decide) o7 rfl ?_
      refine ax_if2 (p1 := 62) (p2 := 36) ⟨_, rfl⟩ (by decide) rfl (hg3 _ _) (hg3 _ _) (fun hc => ?_) (fun hc => ?_)
      · have h := h.2 hc
        refine ax_mv 1 63 [some (.ref 222), some (ax_i x1), some (ax_i x2), some (ax_i x3), none] [ax_i (-1)] rfl ?_
        exact ax_iret ⟨_, rfl⟩ rfl rfl (by decide) hg3 h
      · have h := h.1 (Classical.not_not.mp hc)
        refine ax_mv 1 37 [some (.ref 222), some (ax_i x1), some (ax_i x2), some (ax_i x3), none] [.ref 222] rfl ?_
        refine ax_gR (v := .ref 228) (pc' := 40) ⟨_, rfl⟩ fl_12_25 ay_222 rfl rfl ?_
        refine ax_mv 1 41 [some (.ref 222), some (ax_i x1), some (ax_i x2), some (ax_i x3), none] [ax_i x1, .ref 228] rfl ?_
        obtain ⟨o8, h⟩ := h
        refine ax_ild (n := 9) (pc' := 42) ⟨_, rfl⟩ ay_228 (by decide) o8 rfl ?_
        refine ax_mv 1 43 [some (.ref 222), some (ax_i x1), some (ax_i x2), some (ax_i x3), none] [.ref 222, ax_i (V3 228 x1)] rfl ?_
        refine ax_gR (v := .ref 228) (pc' := 46) ⟨_, rfl⟩ fl_12_25 ay_222 rfl rfl ?_
        refine ax_mv 1 47 [some (.ref 222), some (ax_i x1), some (ax_i x2), some (ax_i x3), none] [ax_i x2, .ref 228, ax_i (V3 228 x1)] rfl ?_
        obtain ⟨o9, h⟩ := h
        refine ax_ild (n := 9) (pc' := 48) ⟨_, rfl⟩ ay_228 (by decide) o9 rfl ?_
        refine ax_if2 (p1 := 62) (p2 := 51) ⟨_, rfl⟩ (by decide) rfl (hg3 _ _) (hg3 _ _) (fun hc => ?_) (fun hc => ?_)
        · have h := h.2 hc
          refine ax_mv 1 63 [some (.ref 222), some (ax_i x1), some (ax_i x2), some (ax_i x3), none] [ax_i (-1)] rfl ?_
          exact ax_iret ⟨_, rfl⟩ rfl rfl (by decide) hg3 h
        · have h := h.1 (Classical.not_not.mp hc)
          refine ax_mv 2 53 [some (.ref 222), some (ax_i x1), some (ax_i x2), some (ax_i x3), none] [ax_i 1, ax_i x3] rfl ?_
          refine ax_sip (pc' := 56) ⟨_, rfl⟩ (by decide) rfl ?_
          refine ax_callS (pc' := 59) ⟨_, rfl⟩ ml_12_307 (Nat.le_of_ble_eq_true rfl) (Nat.le_of_ble_eq_true rfl) rfl h (fun r4 V4 hg4 hr4 h => ?_)
          refine ax_mv 0 59 [some (.ref 222), some (ax_i x1), some (ax_i x2), some (ax_i x3), none] [ax_i r4] rfl ?_
          refine ax_if (p1 := 64) (p2 := 62) ⟨_, rfl⟩ (by decide) rfl hr4 (fun hc => ?_) (fun hc => ?_)
          · have h := h.2 hc
            refine ax_mv 1 65 [some (.ref 222), some (ax_i x1), some (ax_i x2), some (ax_i x3), none] [ax_i 0] rfl ?_
            refine ax_sti (i := 0) (k := 4) (n := 2) (pc' := 67) (L' := [some (.ref 222), some (ax_i x1), some (ax_i x2), some (ax_i x3), some (ax_i 0)]) ⟨_, rfl⟩ rfl rfl rfl (Nat.le_of_ble_eq_true rfl) rfl rfl ?_
            exact h
          · have h := h.1 (Classical.not_not.mp hc)
            refine ax_mv 1 63 [some (.ref 222), some (ax_i x1), some (ax_i x2), some (ax_i x3), none] [ax_i (-1)] rfl ?_
            exact ax_iret ⟨_, rfl⟩ rfl rfl (by decide) hg4 h
theorem r_Model_run {d : Nat} {V : ax_V} {Φ : Int → ax_V → Prop} {Θ : ax_V → Prop} {x1 : Int} (hg : ax_g V) (hx1 : ax_rg x1) (h : (∀ V1, V1 = ax_u V 222 0 0 → ((V1 222 113 = 0 → Φ (-1) V1) ∧ (¬ V1 222 113 = 0 → ((x1 = -1 → Φ (V1 222 120) V1) ∧ (¬ x1 = -1 → ((x1 = -2 → Φ (V1 222 115) V1) ∧ (¬ x1 = -2 → ax_I ay_lay d q_Model_within [ax_i x1, ax_i 0, ax_i ((V1 222 120) - 1)] V1 (fun r2 V2 => ((r2 = 0 → Φ (-1) V2) ∧ (¬ r2 = 0 → (0 ≤ x1 ∧ x1 < 301) ∧ Φ (V2 312 x1) V2))) (fun _ => False))))))))) : ax_I ay_lay (d + 1) q_Model_run [.ref 222, ax_i x1] V Φ Θ := by
  refine ax_T.of (M := m_Model_run) rfl (Nat.le_of_ble_eq_true rfl) ?_
  refine ax_mv 0 0 [some (.ref 222), some (ax_i x1)] [] rfl ?_
  refine ax_mv 2 2 [some (.ref 222), some (ax_i x1)] [ax_i 0, .ref 222] rfl ?_
  obtain ⟨V1, eV1⟩ : ∃ W9 : ax_V, W9 = ax_u V 222 0 0 := ⟨_, rfl⟩
  have h := h V1 eV1
  have hg1 : ax_g V1 := eV1 ▸ ax_u_g hg (by decide)
  refine ax_pI (kI := 0) (pc' := 5) ⟨_, rfl⟩ fl_12_285 ay_ok ay_222 rfl rfl rfl rfl eV1 rfl ?_
  refine ax_mv 1 6 [some (.ref 222), some (ax_i x1)] [.ref 222] rfl ?_
  refine ax_gI (kI := 113) (pc' := 9) ⟨_, rfl⟩ fl_12_700 ay_222 rfl rfl rfl ?_
  refine ax_if (p1 := 14) (p2 := 12) ⟨_, rfl⟩ (by decide) rfl (hg1 _ _) (fun hc => ?_) (fun hc => ?_)
  · have h := h.2 hc
    refine ax_mv 2 16 [some (.ref 222), some (ax_i x1)] [ax_i (-1), ax_i x1] rfl ?_
    refine ax_if2 (p1 := 24) (p2 := 19) ⟨_, rfl⟩ (by decide) rfl hx1 (by decide) (fun hc => ?_) (fun hc => ?_)
    · have h := h.2 hc
      refine ax_mv 1 25 [some (.ref 222), some (ax_i x1)] [ax_i x1] rfl ?_
      refine ax_bip (pc' := 27) ⟨_, rfl⟩ (by decide) rfl ?_
      refine ax_if2 (p1 := 35) (p2 := 30) ⟨_, rfl⟩ (by decide) rfl hx1 (by decide) (fun hc => ?_) (fun hc => ?_)
      · have h := h.2 hc
        refine ax_mv 3 38 [some (.ref 222), some (ax_i x1)] [.ref 222, ax_i 0, ax_i x1] rfl ?_
        refine ax_gI (kI := 120) (pc' := 41) ⟨_, rfl⟩ fl_12_697 ay_222 rfl rfl rfl ?_
        refine ax_mv 1 42 [some (.ref 222), some (ax_i x1)] [ax_i 1, ax_i (V1 222 120), ax_i 0, ax_i x1] rfl ?_
        refine ax_sub (pc' := 43) ⟨_, rfl⟩ rfl ?_
        refine ax_callS (pc' := 46) ⟨_, rfl⟩ ml_12_307 (Nat.le_of_ble_eq_true rfl) (Nat.le_of_ble_eq_true rfl) rfl h (fun r2 V2 hg2 hr2 h => ?_)
        refine ax_mv 0 46 [some (.ref 222), some (ax_i x1)] [ax_i r2] rfl ?_
        refine ax_if (p1 := 58) (p2 := 49) ⟨_, rfl⟩ (by decide) rfl hr2 (fun hc => ?_) (fun hc => ?_)
        · have h := h.1 hc
          refine ax_mv 1 59 [some (.ref 222), some (ax_i x1)] [ax_i (-1)] rfl ?_
          exact ax_iret ⟨_, rfl⟩ rfl rfl (by decide) hg2 h
        · have h := h.2 hc
          refine ax_mv 1 50 [some (.ref 222), some (ax_i x1)] [.ref 222] rfl ?_
          refine ax_gR (v := .ref 312) (pc' := 53) ⟨_, rfl⟩ fl_12_279 ay_222 rfl rfl ?_
          refine ax_mv 1 54 [some (.ref 222), some (ax_i x1)] [ax_i x1, .ref 312] rfl ?_
          obtain ⟨o1, h⟩ := h
          refine ax_ild (n := 301) (pc' := 55) ⟨_, rfl⟩ ay_312 (by decide) o1 rfl ?_
          refine ax_mv 1 59 [some (.ref 222), some (ax_i x1)] [ax_i (V2 312 x1)] rfl ?_
          exact ax_iret ⟨_, rfl⟩ rfl rfl (hg2 _ _) hg2 h
      · have h := h.1 (Classical.not_not.mp hc)
        refine ax_mv 1 31 [some (.ref 222), some (ax_i x1)] [.ref 222] rfl ?_
        refine ax_gI (kI := 115) (pc' := 34) ⟨_, rfl⟩ fl_12_688 ay_222 rfl rfl rfl ?_
        exact ax_iret ⟨_, rfl⟩ rfl rfl (hg1 _ _) hg1 h
    · have h := h.1 (Classical.not_not.mp hc)
      refine ax_mv 1 20 [some (.ref 222), some (ax_i x1)] [.ref 222] rfl ?_
      refine ax_gI (kI := 120) (pc' := 23) ⟨_, rfl⟩ fl_12_697 ay_222 rfl rfl rfl ?_
      exact ax_iret ⟨_, rfl⟩ rfl rfl (hg1 _ _) hg1 h
  · have h := h.1 (Classical.not_not.mp hc)
    refine ax_mv 1 13 [some (.ref 222), some (ax_i x1)] [ax_i (-1)] rfl ?_
    exact ax_iret ⟨_, rfl⟩ rfl rfl (by decide) hg1 h
theorem r_Model_total {d : Nat} {V : ax_V} {Φ : Int → ax_V → Prop} {Θ : ax_V → Prop} {x1 : Int} (hg : ax_g V) (hx1 : ax_rg x1) (h : (∀ V1, V1 = ax_u V 222 0 0 → ((x1 = 0 → ((V1 222 7 = 0 → Φ 0 V1) ∧ (¬ V1 222 7 = 0 → Φ (V1 222 86) V1))) ∧ (¬ x1 = 0 → ((x1 = 1 → Φ (V1 222 1) V1) ∧ (¬ x1 = 1 → ((x1 = 2 → Φ (V1 222 102) V1) ∧ (¬ x1 = 2 → Φ (-1) V1)))))))) : ax_I ay_lay (d + 1) q_Model_total [.ref 222, ax_i x1] V Φ Θ := by
  refine ax_T.of (M := m_Model_total) rfl (Nat.le_of_ble_eq_true rfl) ?_
  refine ax_mv 0 0 [some (.ref 222), some (ax_i x1)] [] rfl ?_
  refine ax_mv 2 2 [some (.ref 222), some (ax_i x1)] [ax_i 0, .ref 222] rfl ?_
  obtain ⟨V1, eV1⟩ : ∃ W9 : ax_V, W9 = ax_u V 222 0 0 := ⟨_, rfl⟩
  have h := h V1 eV1
  have hg1 : ax_g V1 := eV1 ▸ ax_u_g hg (by decide)
  refine ax_pI (kI := 0) (pc' := 5) ⟨_, rfl⟩ fl_12_285 ay_ok ay_222 rfl rfl rfl rfl eV1 rfl ?_
  refine ax_mv 1 6 [some (.ref 222), some (ax_i x1)] [ax_i x1] rfl ?_
  refine ax_if (p1 := 27) (p2 := 9) ⟨_, rfl⟩ (by decide) rfl hx1 (fun hc => ?_) (fun hc => ?_)
  · have h := h.2 hc
    refine ax_mv 2 29 [some (.ref 222), some (ax_i x1)] [ax_i 1, ax_i x1] rfl ?_
    refine ax_if2 (p1 := 39) (p2 := 32) ⟨_, rfl⟩ (by decide) rfl hx1 (by decide) (fun hc => ?_) (fun hc => ?_)
    · have h := h.2 hc
      refine ax_mv 2 41 [some (.ref 222), some (ax_i x1)] [ax_i 2, ax_i x1] rfl ?_
      refine ax_if2 (p1 := 51) (p2 := 44) ⟨_, rfl⟩ (by decide) rfl hx1 (by decide) (fun hc => ?_) (fun hc => ?_)
      · have h := h.2 hc
        refine ax_mv 1 52 [some (.ref 222), some (ax_i x1)] [ax_i (-1)] rfl ?_
        exact ax_iret ⟨_, rfl⟩ rfl rfl (by decide) hg1 h
      · have h := h.1 (Classical.not_not.mp hc)
        refine ax_mv 1 45 [some (.ref 222), some (ax_i x1)] [.ref 222] rfl ?_
        refine ax_gI (kI := 102) (pc' := 48) ⟨_, rfl⟩ fl_12_616 ay_222 rfl rfl rfl ?_
        refine ax_mv 1 52 [some (.ref 222), some (ax_i x1)] [ax_i (V1 222 102)] rfl ?_
        exact ax_iret ⟨_, rfl⟩ rfl rfl (hg1 _ _) hg1 h
    · have h := h.1 (Classical.not_not.mp hc)
      refine ax_mv 1 33 [some (.ref 222), some (ax_i x1)] [.ref 222] rfl ?_
      refine ax_gI (kI := 1) (pc' := 36) ⟨_, rfl⟩ fl_12_289 ay_222 rfl rfl rfl ?_
      refine ax_mv 1 52 [some (.ref 222), some (ax_i x1)] [ax_i (V1 222 1)] rfl ?_
      exact ax_iret ⟨_, rfl⟩ rfl rfl (hg1 _ _) hg1 h
  · have h := h.1 (Classical.not_not.mp hc)
    refine ax_mv 1 10 [some (.ref 222), some (ax_i x1)] [.ref 222] rfl ?_
    refine ax_gI (kI := 7) (pc' := 13) ⟨_, rfl⟩ fl_12_610 ay_222 rfl rfl rfl ?_
    refine ax_if (p1 := 23) (p2 := 16) ⟨_, rfl⟩ (by decide) rfl (hg1 _ _) (fun hc => ?_) (fun hc => ?_)
    · have h := h.1 hc
      refine ax_mv 2 52 [some (.ref 222), some (ax_i x1)] [ax_i 0] rfl ?_
      exact ax_iret ⟨_, rfl⟩ rfl rfl (by decide) hg1 h
    · have h := h.2 hc
      refine ax_mv 1 17 [some (.ref 222), some (ax_i x1)] [.ref 222] rfl ?_
      refine ax_gI (kI := 86) (pc' := 20) ⟨_, rfl⟩ fl_12_444 ay_222 rfl rfl rfl ?_
      refine ax_mv 1 52 [some (.ref 222), some (ax_i x1)] [ax_i (V1 222 86)] rfl ?_
      exact ax_iret ⟨_, rfl⟩ rfl rfl (hg1 _ _) hg1 h
