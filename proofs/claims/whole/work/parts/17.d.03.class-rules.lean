/-! RULES of the methods of the class: a method each, and each loop of it. PRINTED by wip/gen/rules.py -/
abbrev k_Reader_readMerge_17 (B : Nat) (r : Nat) (d : Nat) (x1 : Int) (y2 : Option Value) (y3 : Option Value) (y4 : Option Value) (y5 : Option Value) (V : ax_V) (Φ : Int → ax_V → Prop) (Θ : ax_V → Prop) : Prop := ax_R (az_W B (az_ER B r)) ax_t d m_Reader_readMerge 17 [some (.ref r), some (ax_i x1), y2, y3, y4, y5] [] V (ax_Ir Φ) Θ
set_option maxRecDepth 20000 in
theorem r_Reader_readMerge_17 {B : Nat} {r : Nat} {d : Nat} {V : ax_V} {Φ : Int → ax_V → Prop} {Θ : ax_V → Prop} {x1 : Int} {y2 : Option Value} {y3 : Option Value} {y4 : Option Value} {y5 : Option Value} (hg : ax_g V) (hx1 : ax_rg x1) (hy2 : ax_y y2) (hy3 : ax_y y3) (hy4 : ax_y y4) (hy5 : ax_y y5) (h : ax_N (az_W B (az_ER B r)) d q_Reader_deepen [.ref r] V (fun V1 => ax_rg ((V1 600 6) + 1) ∧ (∀ V2, V2 = ax_u V1 600 6 ((V1 600 6) + 1) → ax_I (az_W B (az_ER B r)) d q_Reader_takeLetter [.ref r] V2 (fun r3 V3 => ax_N (az_W B (az_ER B r)) d q_Reader_expect [.ref r, ax_i 44] V3 (fun V4 => ax_I (az_W B (az_ER B r)) d q_Reader_readX [.ref r] V4 (fun r5 V5 => ax_N (az_W B (az_ER B r)) d q_Reader_expect [.ref r, ax_i 44] V5 (fun V6 => ax_I (az_W B (az_ER B r)) d q_Reader_readX [.ref r] V6 (fun r7 V7 => ax_N (az_W B (az_ER B r)) d q_Reader_expect [.ref r, ax_i 93] V7 (fun V8 => ax_rg ((V8 600 11) - 1) ∧ (∀ V9, V9 = ax_u V8 600 11 ((V8 600 11) - 1) → ax_I (az_W B (az_ER B r)) d q_Reader_addPart [.ref r, ax_i 21, ax_i x1, ax_i (x1 + 1), ax_i r3] V9 (fun r10 V10 => (0 ≤ r10 ∧ r10 < 700) ∧ (∀ V11, V11 = ax_u V10 521 r10 r5 → (0 ≤ r5 ∧ r5 < 700) ∧ (∀ V12, V12 = ax_u V11 522 r5 r7 → Φ r10 V12))) Θ)) Θ) Θ) Θ) Θ) Θ) Θ)) Θ) : k_Reader_readMerge_17 B r d x1 y2 y3 y4 y5 V Φ Θ := by
  refine ax_mv 1 18 [some (.ref r), some (ax_i x1), y2, y3, y4, y5] [.ref r] rfl ?_
  refine ax_callN (pc' := 21) ⟨_, rfl⟩ ml_10_249 (rest := []) rfl (fun ss hs => ⟨_, _, (az_e 1 rfl) ss hs⟩) (Nat.le_of_ble_eq_true rfl) rfl rfl h (fun V1 hg1 h => ?_)
  refine ax_mv 2 23 [some (.ref r), some (ax_i x1), y2, y3, y4, y5] [.ref r, .ref r] rfl ?_
  refine ax_gI (kI := 6) (pc' := 26) ⟨_, rfl⟩ fl_10_49 (az_e 1 rfl) rfl rfl rfl ?_
  refine ax_mv 1 27 [some (.ref r), some (ax_i x1), y2, y3, y4, y5] [ax_i 1, ax_i (V1 600 6), .ref r] rfl ?_
  refine ax_add (pc' := 28) ⟨_, rfl⟩ rfl ?_
  obtain ⟨o1, h⟩ := h
  obtain ⟨V2, eV2⟩ : ∃ W9 : ax_V, W9 = ax_u V1 600 6 ((V1 600 6) + 1) := ⟨_, rfl⟩
  have h := h V2 eV2
  have hg2 : ax_g V2 := eV2 ▸ ax_u_g hg1 o1
  refine ax_pI (kI := 6) (pc' := 31) ⟨_, rfl⟩ fl_10_49 az_ok (az_e 1 rfl) rfl rfl rfl rfl eV2 rfl ?_
  refine ax_mv 1 32 [some (.ref r), some (ax_i x1), y2, y3, y4, y5] [.ref r] rfl ?_
  refine ax_callI (pc' := 35) ⟨_, rfl⟩ ml_10_90 (rest := []) rfl (fun ss hs => ⟨_, _, (az_e 1 rfl) ss hs⟩) (Nat.le_of_ble_eq_true rfl) rfl rfl h (fun r3 V3 hg3 hr3 h => ?_)
  refine ax_sti (i := 0) (k := 2) (n := 1) (pc' := 36) (L' := [some (.ref r), some (ax_i x1), some (ax_i r3), y3, y4, y5]) ⟨_, rfl⟩ rfl rfl rfl (Nat.le_of_ble_eq_true rfl) rfl rfl ?_
  refine ax_mv 1 37 [some (.ref r), some (ax_i x1), some (ax_i r3), y3, y4, y5] [.ref r] rfl ?_
  refine ax_bip (pc' := 39) ⟨_, rfl⟩ (by decide) rfl ?_
  refine ax_callN (pc' := 42) ⟨_, rfl⟩ ml_10_70 (rest := []) rfl (fun ss hs => ⟨_, _, (az_e 1 rfl) ss hs⟩) (Nat.le_of_ble_eq_true rfl) rfl rfl h (fun V4 hg4 h => ?_)
  refine ax_mv 1 43 [some (.ref r), some (ax_i x1), some (ax_i r3), y3, y4, y5] [.ref r] rfl ?_
  refine ax_callI (pc' := 46) ⟨_, rfl⟩ ml_10_166 (rest := []) rfl (fun ss hs => ⟨_, _, (az_e 1 rfl) ss hs⟩) (Nat.le_of_ble_eq_true rfl) rfl rfl h (fun r5 V5 hg5 hr5 h => ?_)
  refine ax_sti (i := 0) (k := 3) (n := 1) (pc' := 47) (L' := [some (.ref r), some (ax_i x1), some (ax_i r3), some (ax_i r5), y4, y5]) ⟨_, rfl⟩ rfl rfl rfl (Nat.le_of_ble_eq_true rfl) rfl rfl ?_
  refine ax_mv 1 48 [some (.ref r), some (ax_i x1), some (ax_i r3), some (ax_i r5), y4, y5] [.ref r] rfl ?_
  refine ax_bip (pc' := 50) ⟨_, rfl⟩ (by decide) rfl ?_
  refine ax_callN (pc' := 53) ⟨_, rfl⟩ ml_10_70 (rest := []) rfl (fun ss hs => ⟨_, _, (az_e 1 rfl) ss hs⟩) (Nat.le_of_ble_eq_true rfl) rfl rfl h (fun V6 hg6 h => ?_)
  refine ax_mv 1 54 [some (.ref r), some (ax_i x1), some (ax_i r3), some (ax_i r5), y4, y5] [.ref r] rfl ?_
  refine ax_callI (pc' := 57) ⟨_, rfl⟩ ml_10_166 (rest := []) rfl (fun ss hs => ⟨_, _, (az_e 1 rfl) ss hs⟩) (Nat.le_of_ble_eq_true rfl) rfl rfl h (fun r7 V7 hg7 hr7 h => ?_)
  refine ax_sti (i := 0) (k := 4) (n := 2) (pc' := 59) (L' := [some (.ref r), some (ax_i x1), some (ax_i r3), some (ax_i r5), some (ax_i r7), y5]) ⟨_, rfl⟩ rfl rfl rfl (Nat.le_of_ble_eq_true rfl) rfl rfl ?_
  refine ax_mv 1 60 [some (.ref r), some (ax_i x1), some (ax_i r3), some (ax_i r5), some (ax_i r7), y5] [.ref r] rfl ?_
  refine ax_bip (pc' := 62) ⟨_, rfl⟩ (by decide) rfl ?_
  refine ax_callN (pc' := 65) ⟨_, rfl⟩ ml_10_70 (rest := []) rfl (fun ss hs => ⟨_, _, (az_e 1 rfl) ss hs⟩) (Nat.le_of_ble_eq_true rfl) rfl rfl h (fun V8 hg8 h => ?_)
  refine ax_mv 2 67 [some (.ref r), some (ax_i x1), some (ax_i r3), some (ax_i r5), some (ax_i r7), y5] [.ref r, .ref r] rfl ?_
  refine ax_gI (kI := 11) (pc' := 70) ⟨_, rfl⟩ fl_10_239 (az_e 1 rfl) rfl rfl rfl ?_
  refine ax_mv 1 71 [some (.ref r), some (ax_i x1), some (ax_i r3), some (ax_i r5), some (ax_i r7), y5] [ax_i 1, ax_i (V8 600 11), .ref r] rfl ?_
  refine ax_sub (pc' := 72) ⟨_, rfl⟩ rfl ?_
  obtain ⟨o2, h⟩ := h
  obtain ⟨V9, eV9⟩ : ∃ W9 : ax_V, W9 = ax_u V8 600 11 ((V8 600 11) - 1) := ⟨_, rfl⟩
  have h := h V9 eV9
  have hg9 : ax_g V9 := eV9 ▸ ax_u_g hg8 o2
  refine ax_pI (kI := 11) (pc' := 75) ⟨_, rfl⟩ fl_10_239 az_ok (az_e 1 rfl) rfl rfl rfl rfl eV9 rfl ?_
  refine ax_mv 1 76 [some (.ref r), some (ax_i x1), some (ax_i r3), some (ax_i r5), some (ax_i r7), y5] [.ref r] rfl ?_
  refine ax_bip (pc' := 78) ⟨_, rfl⟩ (by decide) rfl ?_
  refine ax_mv 3 81 [some (.ref r), some (ax_i x1), some (ax_i r3), some (ax_i r5), some (ax_i r7), y5] [ax_i 1, ax_i x1, ax_i x1, ax_i 21, .ref r] rfl ?_
  refine ax_add (pc' := 82) ⟨_, rfl⟩ rfl ?_
  refine ax_mv 1 83 [some (.ref r), some (ax_i x1), some (ax_i r3), some (ax_i r5), some (ax_i r7), y5] [ax_i r3, ax_i (x1 + 1), ax_i x1, ax_i 21, .ref r] rfl ?_
  refine ax_callI (pc' := 86) ⟨_, rfl⟩ ml_10_230 (rest := []) rfl (fun ss hs => ⟨_, _, (az_e 1 rfl) ss hs⟩) (Nat.le_of_ble_eq_true rfl) rfl rfl h (fun r10 V10 hg10 hr10 h => ?_)
  refine ax_sti (i := 0) (k := 5) (n := 2) (pc' := 88) (L' := [some (.ref r), some (ax_i x1), some (ax_i r3), some (ax_i r5), some (ax_i r7), some (ax_i r10)]) ⟨_, rfl⟩ rfl rfl rfl (Nat.le_of_ble_eq_true rfl) rfl rfl ?_
  refine ax_mv 1 89 [some (.ref r), some (ax_i x1), some (ax_i r3), some (ax_i r5), some (ax_i r7), some (ax_i r10)] [.ref r] rfl ?_
  refine ax_gR (v := .ref (B + 16)) (pc' := 92) ⟨_, rfl⟩ fl_10_35 (az_e 1 rfl) rfl rfl ?_
  refine ax_gR (v := .ref (B + 21)) (pc' := 95) ⟨_, rfl⟩ fl_10_233 (az_b 16 rfl) rfl rfl ?_
  refine ax_mv 2 98 [some (.ref r), some (ax_i x1), some (ax_i r3), some (ax_i r5), some (ax_i r7), some (ax_i r10)] [ax_i r5, ax_i r10, .ref (B + 21)] rfl ?_
  obtain ⟨o3, h⟩ := h
  obtain ⟨V11, eV11⟩ : ∃ W9 : ax_V, W9 = ax_u V10 521 r10 r5 := ⟨_, rfl⟩
  have h := h V11 eV11
  have hg11 : ax_g V11 := eV11 ▸ ax_u_g hg10 hr5
  refine ax_ist (n := 700) (pc' := 99) ⟨_, rfl⟩ az_ok (az_b 21 rfl) (by decide) o3 eV11 rfl ?_
  refine ax_mv 1 100 [some (.ref r), some (ax_i x1), some (ax_i r3), some (ax_i r5), some (ax_i r7), some (ax_i r10)] [.ref r] rfl ?_
  refine ax_gR (v := .ref (B + 16)) (pc' := 103) ⟨_, rfl⟩ fl_10_35 (az_e 1 rfl) rfl rfl ?_
  refine ax_gR (v := .ref (B + 22)) (pc' := 106) ⟨_, rfl⟩ fl_10_236 (az_b 16 rfl) rfl rfl ?_
  refine ax_mv 2 109 [some (.ref r), some (ax_i x1), some (ax_i r3), some (ax_i r5), some (ax_i r7), some (ax_i r10)] [ax_i r7, ax_i r5, .ref (B + 22)] rfl ?_
  obtain ⟨o4, h⟩ := h
  obtain ⟨V12, eV12⟩ : ∃ W9 : ax_V, W9 = ax_u V11 522 r5 r7 := ⟨_, rfl⟩
  have h := h V12 eV12
  have hg12 : ax_g V12 := eV12 ▸ ax_u_g hg11 hr7
  refine ax_ist (n := 700) (pc' := 110) ⟨_, rfl⟩ az_ok (az_b 22 rfl) (by decide) o4 eV12 rfl ?_
  refine ax_mv 1 112 [some (.ref r), some (ax_i x1), some (ax_i r3), some (ax_i r5), some (ax_i r7), some (ax_i r10)] [ax_i r10] rfl ?_
  exact ax_iret ⟨_, rfl⟩ rfl rfl hr10 hg12 h
set_option maxRecDepth 20000 in
theorem r_Reader_readMerge {B : Nat} {r : Nat} {d : Nat} {V : ax_V} {Φ : Int → ax_V → Prop} {Θ : ax_V → Prop} (hg : ax_g V) (h : ((V 600 9 = -1 → k_Reader_readMerge_17 B r d (V 600 6) none none none none V Φ Θ) ∧ (¬ V 600 9 = -1 → ax_N (az_W B (az_ER B r)) d q_Reader_refuse [.ref r] V (fun V1 => k_Reader_readMerge_17 B r d (V 600 6) none none none none V1 Φ Θ) Θ))) : ax_I (az_W B (az_ER B r)) (d + 1) q_Reader_readMerge [.ref r] V Φ Θ := by
  refine ax_T.of (M := m_Reader_readMerge) rfl (Nat.le_of_ble_eq_true rfl) ?_
  refine ax_mv 0 0 [some (.ref r), none, none, none, none, none] [] rfl ?_
  refine ax_mv 1 1 [some (.ref r), none, none, none, none, none] [.ref r] rfl ?_
  refine ax_gI (kI := 6) (pc' := 4) ⟨_, rfl⟩ fl_10_49 (az_e 1 rfl) rfl rfl rfl ?_
  refine ax_sti (i := 0) (k := 1) (n := 1) (pc' := 5) (L' := [some (.ref r), some (ax_i (V 600 6)), none, none, none, none]) ⟨_, rfl⟩ rfl rfl rfl (Nat.le_of_ble_eq_true rfl) rfl rfl ?_
  refine ax_mv 1 6 [some (.ref r), some (ax_i (V 600 6)), none, none, none, none] [.ref r] rfl ?_
  refine ax_gI (kI := 9) (pc' := 9) ⟨_, rfl⟩ fl_10_15 (az_e 1 rfl) rfl rfl rfl ?_
  refine ax_mv 1 10 [some (.ref r), some (ax_i (V 600 6)), none, none, none, none] [ax_i (-1), ax_i (V 600 9)] rfl ?_
  refine ax_if2 (p1 := 17) (p2 := 13) ⟨_, rfl⟩ (by decide) rfl (hg _ _) (by decide) (fun hc => ?_) (fun hc => ?_)
  · have h := h.1 hc
    exact h
  · have h := h.2 hc
    refine ax_mv 1 14 [some (.ref r), some (ax_i (V 600 6)), none, none, none, none] [.ref r] rfl ?_
    refine ax_callN (pc' := 17) ⟨_, rfl⟩ ml_10_84 (rest := []) rfl (fun ss hs => ⟨_, _, (az_e 1 rfl) ss hs⟩) (Nat.le_of_ble_eq_true rfl) rfl rfl h (fun V1 hg1 h => ?_)
    exact h
abbrev k_Reader_sampled_4 (B : Nat) (r : Nat) (d : Nat) (y1 : Option Value) (x2 : Int) (x3 : Int) (y4 : Option Value) (y5 : Option Value) (V : ax_V) (Φ : Int → ax_V → Prop) (Θ : ax_V → Prop) : Prop := ax_R (az_W B (az_ER B r)) ax_t d m_Reader_sampled 4 [some (.ref r), y1, some (ax_i x2), some (ax_i x3), y4, y5] [] V (ax_Ir Φ) Θ
theorem r_Reader_sampled_4 {B : Nat} {r : Nat} {d : Nat} {V : ax_V} {Φ : Int → ax_V → Prop} {Θ : ax_V → Prop} {y1 : Option Value} {x2 : Int} {x3 : Int} {y4 : Option Value} {y5 : Option Value} (hg : ax_g V) (hy1 : ax_y y1) (hx2 : ax_rg x2) (hx3 : ax_rg x3) (hy4 : ax_y y4) (hy5 : ax_y y5) (h : ((700 ≤ x3 → Φ x2 V) ∧ (x3 < 700 → ((V 600 9 = -1 → ax_I (az_W B (az_ER B r)) d q_Reader_look [.ref r] V (fun r1 V1 => ((r1 = 64 → ax_rg ((V1 600 6) + 1) ∧ (∀ V2, V2 = ax_u V1 600 6 ((V1 600 6) + 1) → ax_I (az_W B (az_ER B r)) d q_Reader_takeClock [.ref r] V2 (fun r3 V3 => (0 ≤ x2 ∧ x2 < 700) ∧ ax_I (az_W B (az_ER B r)) d q_Reader_addPart [.ref r, ax_i 20, ax_i (V3 518 x2), ax_i ((V3 600 6) - 1), ax_i r3] V3 (fun r4 V4 => (0 ≤ r4 ∧ r4 < 700) ∧ (∀ V5, V5 = ax_u V4 521 r4 x2 → k_Reader_sampled_4 B r d y1 r4 (x3 + 1) (some (ax_i r3)) (some (ax_i r4)) V5 Φ Θ)) Θ) Θ)) ∧ (¬ r1 = 64 → Φ x2 V1))) Θ) ∧ (¬ V 600 9 = -1 → Φ x2 V))))) : k_Reader_sampled_4 B r d y1 x2 x3 y4 y5 V Φ Θ := by
  refine ax_mv 1 5 [some (.ref r), y1, some (ax_i x2), some (ax_i x3), y4, y5] [ax_i x3] rfl ?_
  refine ax_sip (pc' := 8) ⟨_, rfl⟩ (by decide) rfl ?_
  refine ax_if2 (p1 := 89) (p2 := 11) ⟨_, rfl⟩ (by decide) rfl hx3 (by decide) (fun hc => ?_) (fun hc => ?_)
  · have h := h.1 hc
    refine ax_mv 1 90 [some (.ref r), y1, some (ax_i x2), some (ax_i x3), y4, y5] [ax_i x2] rfl ?_
    exact ax_iret ⟨_, rfl⟩ rfl rfl hx2 hg h
  · have h := h.2 (Int.not_le.mp hc)
    refine ax_mv 1 12 [some (.ref r), y1, some (ax_i x2), some (ax_i x3), y4, y5] [.ref r] rfl ?_
    refine ax_gI (kI := 9) (pc' := 15) ⟨_, rfl⟩ fl_10_15 (az_e 1 rfl) rfl rfl rfl ?_
    refine ax_mv 1 16 [some (.ref r), y1, some (ax_i x2), some (ax_i x3), y4, y5] [ax_i (-1), ax_i (V 600 9)] rfl ?_
    refine ax_if2 (p1 := 89) (p2 := 19) ⟨_, rfl⟩ (by decide) rfl (hg _ _) (by decide) (fun hc => ?_) (fun hc => ?_)
    · have h := h.2 hc
      refine ax_mv 1 90 [some (.ref r), y1, some (ax_i x2), some (ax_i x3), y4, y5] [ax_i x2] rfl ?_
      exact ax_iret ⟨_, rfl⟩ rfl rfl hx2 hg h
    · have h := h.1 (Classical.not_not.mp hc)
      refine ax_mv 1 20 [some (.ref r), y1, some (ax_i x2), some (ax_i x3), y4, y5] [.ref r] rfl ?_
      refine ax_callI (pc' := 23) ⟨_, rfl⟩ ml_10_56 (rest := []) rfl (fun ss hs => ⟨_, _, (az_e 1 rfl) ss hs⟩) (Nat.le_of_ble_eq_true rfl) rfl rfl h (fun r1 V1 hg1 hr1 h => ?_)
      refine ax_bip (pc' := 25) ⟨_, rfl⟩ (by decide) rfl ?_
      refine ax_if2 (p1 := 89) (p2 := 28) ⟨_, rfl⟩ (by decide) rfl hr1 (by decide) (fun hc => ?_) (fun hc => ?_)
      · have h := h.2 hc
        refine ax_mv 1 90 [some (.ref r), y1, some (ax_i x2), some (ax_i x3), y4, y5] [ax_i x2] rfl ?_
        exact ax_iret ⟨_, rfl⟩ rfl rfl hx2 hg1 h
      · have h := h.1 (Classical.not_not.mp hc)
        refine ax_mv 2 30 [some (.ref r), y1, some (ax_i x2), some (ax_i x3), y4, y5] [.ref r, .ref r] rfl ?_
        refine ax_gI (kI := 6) (pc' := 33) ⟨_, rfl⟩ fl_10_49 (az_e 1 rfl) rfl rfl rfl ?_
        refine ax_mv 1 34 [some (.ref r), y1, some (ax_i x2), some (ax_i x3), y4, y5] [ax_i 1, ax_i (V1 600 6), .ref r] rfl ?_
        refine ax_add (pc' := 35) ⟨_, rfl⟩ rfl ?_
        obtain ⟨o1, h⟩ := h
        obtain ⟨V2, eV2⟩ : ∃ W9 : ax_V, W9 = ax_u V1 600 6 ((V1 600 6) + 1) := ⟨_, rfl⟩
        have h := h V2 eV2
        have hg2 : ax_g V2 := eV2 ▸ ax_u_g hg1 o1
        refine ax_pI (kI := 6) (pc' := 38) ⟨_, rfl⟩ fl_10_49 az_ok (az_e 1 rfl) rfl rfl rfl rfl eV2 rfl ?_
        refine ax_mv 1 39 [some (.ref r), y1, some (ax_i x2), some (ax_i x3), y4, y5] [.ref r] rfl ?_
        refine ax_callI (pc' := 42) ⟨_, rfl⟩ ml_10_136 (rest := []) rfl (fun ss hs => ⟨_, _, (az_e 1 rfl) ss hs⟩) (Nat.le_of_ble_eq_true rfl) rfl rfl h (fun r3 V3 hg3 hr3 h => ?_)
        refine ax_sti (i := 0) (k := 4) (n := 2) (pc' := 44) (L' := [some (.ref r), y1, some (ax_i x2), some (ax_i x3), some (ax_i r3), y5]) ⟨_, rfl⟩ rfl rfl rfl (Nat.le_of_ble_eq_true rfl) rfl rfl ?_
        refine ax_mv 1 45 [some (.ref r), y1, some (ax_i x2), some (ax_i x3), some (ax_i r3), y5] [.ref r] rfl ?_
        refine ax_bip (pc' := 47) ⟨_, rfl⟩ (by decide) rfl ?_
        refine ax_mv 1 48 [some (.ref r), y1, some (ax_i x2), some (ax_i x3), some (ax_i r3), y5] [.ref r, ax_i 20, .ref r] rfl ?_
        refine ax_gR (v := .ref (B + 16)) (pc' := 51) ⟨_, rfl⟩ fl_10_35 (az_e 1 rfl) rfl rfl ?_
        refine ax_gR (v := .ref (B + 18)) (pc' := 54) ⟨_, rfl⟩ fl_10_227 (az_b 16 rfl) rfl rfl ?_
        refine ax_mv 1 55 [some (.ref r), y1, some (ax_i x2), some (ax_i x3), some (ax_i r3), y5] [ax_i x2, .ref (B + 18), ax_i 20, .ref r] rfl ?_
        obtain ⟨o2, h⟩ := h
        refine ax_ild (n := 700) (pc' := 56) ⟨_, rfl⟩ (az_b 18 rfl) (by decide) o2 rfl ?_
        refine ax_mv 1 57 [some (.ref r), y1, some (ax_i x2), some (ax_i x3), some (ax_i r3), y5] [.ref r, ax_i (V3 518 x2), ax_i 20, .ref r] rfl ?_
        refine ax_gI (kI := 6) (pc' := 60) ⟨_, rfl⟩ fl_10_49 (az_e 1 rfl) rfl rfl rfl ?_
        refine ax_mv 1 61 [some (.ref r), y1, some (ax_i x2), some (ax_i x3), some (ax_i r3), y5] [ax_i 1, ax_i (V3 600 6), ax_i (V3 518 x2), ax_i 20, .ref r] rfl ?_
        refine ax_sub (pc' := 62) ⟨_, rfl⟩ rfl ?_
        refine ax_mv 1 64 [some (.ref r), y1, some (ax_i x2), some (ax_i x3), some (ax_i r3), y5] [ax_i r3, ax_i ((V3 600 6) - 1), ax_i (V3 518 x2), ax_i 20, .ref r] rfl ?_
        refine ax_callI (pc' := 67) ⟨_, rfl⟩ ml_10_230 (rest := []) rfl (fun ss hs => ⟨_, _, (az_e 1 rfl) ss hs⟩) (Nat.le_of_ble_eq_true rfl) rfl rfl h (fun r4 V4 hg4 hr4 h => ?_)
        refine ax_sti (i := 0) (k := 5) (n := 2) (pc' := 69) (L' := [some (.ref r), y1, some (ax_i x2), some (ax_i x3), some (ax_i r3), some (ax_i r4)]) ⟨_, rfl⟩ rfl rfl rfl (Nat.le_of_ble_eq_true rfl) rfl rfl ?_
        refine ax_mv 1 70 [some (.ref r), y1, some (ax_i x2), some (ax_i x3), some (ax_i r3), some (ax_i r4)] [.ref r] rfl ?_
        refine ax_gR (v := .ref (B + 16)) (pc' := 73) ⟨_, rfl⟩ fl_10_35 (az_e 1 rfl) rfl rfl ?_
        refine ax_gR (v := .ref (B + 21)) (pc' := 76) ⟨_, rfl⟩ fl_10_233 (az_b 16 rfl) rfl rfl ?_
        refine ax_mv 2 79 [some (.ref r), y1, some (ax_i x2), some (ax_i x3), some (ax_i r3), some (ax_i r4)] [ax_i x2, ax_i r4, .ref (B + 21)] rfl ?_
        obtain ⟨o3, h⟩ := h
        obtain ⟨V5, eV5⟩ : ∃ W9 : ax_V, W9 = ax_u V4 521 r4 x2 := ⟨_, rfl⟩
        have h := h V5 eV5
        have hg5 : ax_g V5 := eV5 ▸ ax_u_g hg4 hx2
        refine ax_ist (n := 700) (pc' := 80) ⟨_, rfl⟩ az_ok (az_b 21 rfl) (by decide) o3 eV5 rfl ?_
        refine ax_mv 1 82 [some (.ref r), y1, some (ax_i x2), some (ax_i x3), some (ax_i r3), some (ax_i r4)] [ax_i r4] rfl ?_
        refine ax_sti (i := 0) (k := 2) (n := 1) (pc' := 83) (L' := [some (.ref r), y1, some (ax_i r4), some (ax_i x3), some (ax_i r3), some (ax_i r4)]) ⟨_, rfl⟩ rfl rfl (ax_kill_y (k := 1) rfl hy1) (Nat.le_of_ble_eq_true rfl) rfl rfl ?_
        refine ax_inc (x := x3) (pc' := 86) (L' := [some (.ref r), y1, some (ax_i r4), some (ax_i (x3 + 1)), some (ax_i r3), some (ax_i r4)]) ⟨_, rfl⟩ rfl rfl rfl rfl ?_
        refine ax_mv 1 4 [some (.ref r), y1, some (ax_i r4), some (ax_i (x3 + 1)), some (ax_i r3), some (ax_i r4)] [] rfl ?_
        exact h
theorem r_Reader_sampled {B : Nat} {r : Nat} {d : Nat} {V : ax_V} {Φ : Int → ax_V → Prop} {Θ : ax_V → Prop} {x1 : Int} (hg : ax_g V) (hx1 : ax_rg x1) (h : k_Reader_sampled_4 B r d (some (ax_i x1)) x1 0 none none V Φ Θ) : ax_I (az_W B (az_ER B r)) (d + 1) q_Reader_sampled [.ref r, ax_i x1] V Φ Θ := by
  refine ax_T.of (M := m_Reader_sampled) rfl (Nat.le_of_ble_eq_true rfl) ?_
  refine ax_mv 0 0 [some (.ref r), some (ax_i x1), none, none, none, none] [] rfl ?_
  refine ax_mv 1 1 [some (.ref r), some (ax_i x1), none, none, none, none] [ax_i x1] rfl ?_
  refine ax_sti (i := 0) (k := 2) (n := 1) (pc' := 2) (L' := [some (.ref r), some (ax_i x1), some (ax_i x1), none, none, none]) ⟨_, rfl⟩ rfl rfl rfl (Nat.le_of_ble_eq_true rfl) rfl rfl ?_
  refine ax_mv 1 3 [some (.ref r), some (ax_i x1), some (ax_i x1), none, none, none] [ax_i 0] rfl ?_
  refine ax_sti (i := 0) (k := 3) (n := 1) (pc' := 4) (L' := [some (.ref r), some (ax_i x1), some (ax_i x1), some (ax_i 0), none, none]) ⟨_, rfl⟩ rfl rfl rfl (Nat.le_of_ble_eq_true rfl) rfl rfl ?_
  exact h
theorem r_Reader_operatorHere {B : Nat} {r : Nat} {d : Nat} {V : ax_V} {Φ : Int → ax_V → Prop} {Θ : ax_V → Prop} (hg : ax_g V) (h : ax_I (az_W B (az_ER B r)) d q_Reader_look [.ref r] V (fun r1 V1 => ((r1 = 35 → Φ 10 V1) ∧ (r1 = 37 → Φ 17 V1) ∧ (r1 = 38 → Φ 8 V1) ∧ (r1 = 42 → Φ 15 V1) ∧ (r1 = 43 → Φ 13 V1) ∧ (r1 = 45 → ax_I (az_W B (az_ER B r)) d q_Reader_atArrow [.ref r] V1 (fun r2 V2 => ((r2 = 0 → Φ 14 V2) ∧ (¬ r2 = 0 → Φ (-1) V2))) Θ) ∧ (r1 = 47 → Φ 16 V1) ∧ (r1 = 60 → Φ 11 V1) ∧ (r1 = 61 → Φ 9 V1) ∧ (r1 = 62 → ((V1 600 10 = 0 → Φ 12 V1) ∧ (¬ V1 600 10 = 0 → ((V1 600 12 = 0 → Φ (-1) V1) ∧ (¬ V1 600 12 = 0 → Φ 12 V1))))) ∧ (r1 = 124 → Φ 7 V1) ∧ (¬ r1 = 35 → ¬ r1 = 37 → ¬ r1 = 38 → ¬ r1 = 42 → ¬ r1 = 43 → ¬ r1 = 45 → ¬ r1 = 47 → ¬ r1 = 60 → ¬ r1 = 61 → ¬ r1 = 62 → ¬ r1 = 124 → Φ (-1) V1))) Θ) : ax_I (az_W B (az_ER B r)) (d + 1) q_Reader_operatorHere [.ref r] V Φ Θ := by
  refine ax_T.of (M := m_Reader_operatorHere) rfl (Nat.le_of_ble_eq_true rfl) ?_
  refine ax_mv 0 0 [some (.ref r)] [] rfl ?_
  refine ax_mv 1 1 [some (.ref r)] [.ref r] rfl ?_
  refine ax_callI (pc' := 4) ⟨_, rfl⟩ ml_10_56 (rest := []) rfl (fun ss hs => ⟨_, _, (az_e 1 rfl) ss hs⟩) (Nat.le_of_ble_eq_true rfl) rfl rfl h (fun r1 V1 hg1 hr1 h => ?_)
  have t0 : (r1 = 35) → ax_R (az_W B (az_ER B r)) ax_t d m_Reader_operatorHere 113 [some (.ref r)] [] V1 (ax_Ir Φ) Θ := fun hk => by
    have h := h.1 hk
    refine ax_bip (pc' := 115) ⟨_, rfl⟩ (by decide) rfl ?_
    exact ax_iret ⟨_, rfl⟩ rfl rfl (by decide) hg1 h
  have t1 : (r1 = 37) → ax_R (az_W B (az_ER B r)) ax_t d m_Reader_operatorHere 163 [some (.ref r)] [] V1 (ax_Ir Φ) Θ := fun hk => by
    have h := h.2.1 hk
    refine ax_bip (pc' := 165) ⟨_, rfl⟩ (by decide) rfl ?_
    exact ax_iret ⟨_, rfl⟩ rfl rfl (by decide) hg1 h
  have t2 : (r1 = 38) → ax_R (az_W B (az_ER B r)) ax_t d m_Reader_operatorHere 107 [some (.ref r)] [] V1 (ax_Ir Φ) Θ := fun hk => by
    have h := h.2.2.1 hk
    refine ax_bip (pc' := 109) ⟨_, rfl⟩ (by decide) rfl ?_
    exact ax_iret ⟨_, rfl⟩ rfl rfl (by decide) hg1 h
  have t3 : (r1 = 42) → ax_R (az_W B (az_ER B r)) ax_t d m_Reader_operatorHere 157 [some (.ref r)] [] V1 (ax_Ir Φ) Θ := fun hk => by
    have h := h.2.2.2.1 hk
    refine ax_bip (pc' := 159) ⟨_, rfl⟩ (by decide) rfl ?_
    exact ax_iret ⟨_, rfl⟩ rfl rfl (by decide) hg1 h
  have t4 : (r1 = 43) → ax_R (az_W B (az_ER B r)) ax_t d m_Reader_operatorHere 140 [some (.ref r)] [] V1 (ax_Ir Φ) Θ := fun hk => by
    have h := h.2.2.2.2.1 hk
    refine ax_bip (pc' := 142) ⟨_, rfl⟩ (by decide) rfl ?_
    exact ax_iret ⟨_, rfl⟩ rfl rfl (by decide) hg1 h
  have t5 : (r1 = 45) → ax_R (az_W B (az_ER B r)) ax_t d m_Reader_operatorHere 143 [some (.ref r)] [] V1 (ax_Ir Φ) Θ := fun hk => by
    have h := h.2.2.2.2.2.1 hk
    refine ax_mv 1 144 [some (.ref r)] [.ref r] rfl ?_
    refine ax_callI (pc' := 147) ⟨_, rfl⟩ ml_10_245 (rest := []) rfl (fun ss hs => ⟨_, _, (az_e 1 rfl) ss hs⟩) (Nat.le_of_ble_eq_true rfl) rfl rfl h (fun r2 V2 hg2 hr2 h => ?_)
    refine ax_if (p1 := 154) (p2 := 150) ⟨_, rfl⟩ (by decide) rfl hr2 (fun hc => ?_) (fun hc => ?_)
    · have h := h.1 hc
      refine ax_bip (pc' := 156) ⟨_, rfl⟩ (by decide) rfl ?_
      exact ax_iret ⟨_, rfl⟩ rfl rfl (by decide) hg2 h
    · have h := h.2 hc
      refine ax_mv 2 156 [some (.ref r)] [ax_i (-1)] rfl ?_
      exact ax_iret ⟨_, rfl⟩ rfl rfl (by decide) hg2 h
  have t6 : (r1 = 47) → ax_R (az_W B (az_ER B r)) ax_t d m_Reader_operatorHere 160 [some (.ref r)] [] V1 (ax_Ir Φ) Θ := fun hk => by
    have h := h.2.2.2.2.2.2.1 hk
    refine ax_bip (pc' := 162) ⟨_, rfl⟩ (by decide) rfl ?_
    exact ax_iret ⟨_, rfl⟩ rfl rfl (by decide) hg1 h
  have t7 : (r1 = 60) → ax_R (az_W B (az_ER B r)) ax_t d m_Reader_operatorHere 116 [some (.ref r)] [] V1 (ax_Ir Φ) Θ := fun hk => by
    have h := h.2.2.2.2.2.2.2.1 hk
    refine ax_bip (pc' := 118) ⟨_, rfl⟩ (by decide) rfl ?_
    exact ax_iret ⟨_, rfl⟩ rfl rfl (by decide) hg1 h
  have t8 : (r1 = 61) → ax_R (az_W B (az_ER B r)) ax_t d m_Reader_operatorHere 110 [some (.ref r)] [] V1 (ax_Ir Φ) Θ := fun hk => by
    have h := h.2.2.2.2.2.2.2.2.1 hk
    refine ax_bip (pc' := 112) ⟨_, rfl⟩ (by decide) rfl ?_
    exact ax_iret ⟨_, rfl⟩ rfl rfl (by decide) hg1 h
  have t9 : (r1 = 62) → ax_R (az_W B (az_ER B r)) ax_t d m_Reader_operatorHere 119 [some (.ref r)] [] V1 (ax_Ir Φ) Θ := fun hk => by
    have h := h.2.2.2.2.2.2.2.2.2.1 hk
    refine ax_mv 1 120 [some (.ref r)] [.ref r] rfl ?_
    refine ax_gI (kI := 10) (pc' := 123) ⟨_, rfl⟩ fl_10_199 (az_e 1 rfl) rfl rfl rfl ?_
    refine ax_if (p1 := 137) (p2 := 126) ⟨_, rfl⟩ (by decide) rfl (hg1 _ _) (fun hc => ?_) (fun hc => ?_)
    · have h := h.1 hc
      refine ax_bip (pc' := 139) ⟨_, rfl⟩ (by decide) rfl ?_
      exact ax_iret ⟨_, rfl⟩ rfl rfl (by decide) hg1 h
    · have h := h.2 hc
      refine ax_mv 1 127 [some (.ref r)] [.ref r] rfl ?_
      refine ax_gI (kI := 12) (pc' := 130) ⟨_, rfl⟩ fl_10_271 (az_e 1 rfl) rfl rfl rfl ?_
      refine ax_if (p1 := 137) (p2 := 133) ⟨_, rfl⟩ (by decide) rfl (hg1 _ _) (fun hc => ?_) (fun hc => ?_)
      · have h := h.2 hc
        refine ax_bip (pc' := 139) ⟨_, rfl⟩ (by decide) rfl ?_
        exact ax_iret ⟨_, rfl⟩ rfl rfl (by decide) hg1 h
      · have h := h.1 (Classical.not_not.mp hc)
        refine ax_mv 2 139 [some (.ref r)] [ax_i (-1)] rfl ?_
        exact ax_iret ⟨_, rfl⟩ rfl rfl (by decide) hg1 h
  have t10 : (r1 = 124) → ax_R (az_W B (az_ER B r)) ax_t d m_Reader_operatorHere 104 [some (.ref r)] [] V1 (ax_Ir Φ) Θ := fun hk => by
    have h := h.2.2.2.2.2.2.2.2.2.2.1 hk
    refine ax_bip (pc' := 106) ⟨_, rfl⟩ (by decide) rfl ?_
    exact ax_iret ⟨_, rfl⟩ rfl rfl (by decide) hg1 h
  have tD : ¬ r1 = 35 → ¬ r1 = 37 → ¬ r1 = 38 → ¬ r1 = 42 → ¬ r1 = 43 → ¬ r1 = 45 → ¬ r1 = 47 → ¬ r1 = 60 → ¬ r1 = 61 → ¬ r1 = 62 → ¬ r1 = 124 → ax_R (az_W B (az_ER B r)) ax_t d m_Reader_operatorHere 166 [some (.ref r)] [] V1 (ax_Ir Φ) Θ := fun n0 n1 n2 n3 n4 n5 n6 n7 n8 n9 n10 => by
    have h := h.2.2.2.2.2.2.2.2.2.2.2 n0 n1 n2 n3 n4 n5 n6 n7 n8 n9 n10
    refine ax_mv 1 167 [some (.ref r)] [ax_i (-1)] rfl ?_
    exact ax_iret ⟨_, rfl⟩ rfl rfl (by decide) hg1 h
  by_cases e35 : r1 = 35
  · exact ax_ls (off := 109) (p1 := 113) ⟨_, rfl⟩ hr1 (by decide) (by rw [e35]; rfl) (by decide) (t0 (e35))
  by_cases e37 : r1 = 37
  · exact ax_ls (off := 159) (p1 := 163) ⟨_, rfl⟩ hr1 (by decide) (by rw [e37]; rfl) (by decide) (t1 (e37))
  by_cases e38 : r1 = 38
  · exact ax_ls (off := 103) (p1 := 107) ⟨_, rfl⟩ hr1 (by decide) (by rw [e38]; rfl) (by decide) (t2 (e38))
  by_cases e42 : r1 = 42
  · exact ax_ls (off := 153) (p1 := 157) ⟨_, rfl⟩ hr1 (by decide) (by rw [e42]; rfl) (by decide) (t3 (e42))
  by_cases e43 : r1 = 43
  · exact ax_ls (off := 136) (p1 := 140) ⟨_, rfl⟩ hr1 (by decide) (by rw [e43]; rfl) (by decide) (t4 (e43))
  by_cases e45 : r1 = 45
  · exact ax_ls (off := 139) (p1 := 143) ⟨_, rfl⟩ hr1 (by decide) (by rw [e45]; rfl) (by decide) (t5 (e45))
  by_cases e47 : r1 = 47
  · exact ax_ls (off := 156) (p1 := 160) ⟨_, rfl⟩ hr1 (by decide) (by rw [e47]; rfl) (by decide) (t6 (e47))
  by_cases e60 : r1 = 60
  · exact ax_ls (off := 112) (p1 := 116) ⟨_, rfl⟩ hr1 (by decide) (by rw [e60]; rfl) (by decide) (t7 (e60))
  by_cases e61 : r1 = 61
  · exact ax_ls (off := 106) (p1 := 110) ⟨_, rfl⟩ hr1 (by decide) (by rw [e61]; rfl) (by decide) (t8 (e61))
  by_cases e62 : r1 = 62
  · exact ax_ls (off := 115) (p1 := 119) ⟨_, rfl⟩ hr1 (by decide) (by rw [e62]; rfl) (by decide) (t9 (e62))
  by_cases e124 : r1 = 124
  · exact ax_ls (off := 100) (p1 := 104) ⟨_, rfl⟩ hr1 (by decide) (by rw [e124]; rfl) (by decide) (t10 (e124))
  exact ax_ls (off := 162) (p1 := 166) ⟨_, rfl⟩ hr1 (by decide) (by simp [Op.lookupswitch.offset, Ne.symm e35, Ne.symm e37, Ne.symm e38, Ne.symm e42, Ne.symm e43, Ne.symm e45, Ne.symm e47, Ne.symm e60, Ne.symm e61, Ne.symm e62, Ne.symm e124]) (by decide) (tD e35 e37 e38 e42 e43 e45 e47 e60 e61 e62 e124)
theorem r_Reader_rankOf {B : Nat} {r : Nat} {d : Nat} {V : ax_V} {Φ : Int → ax_V → Prop} {Θ : ax_V → Prop} {x0 : Int} (hg : ax_g V) (hx0 : ax_rg x0) (h : ((x0 = 7 → Φ 0 V) ∧ (x0 = 8 → Φ 1 V) ∧ (x0 = 13 → Φ 3 V) ∧ (x0 = 14 → Φ 3 V) ∧ (x0 = 15 → Φ 4 V) ∧ (x0 = 16 → Φ 4 V) ∧ (x0 = 17 → Φ 4 V) ∧ (¬ x0 = 7 → ¬ x0 = 8 → ¬ x0 = 13 → ¬ x0 = 14 → ¬ x0 = 15 → ¬ x0 = 16 → ¬ x0 = 17 → Φ 2 V))) : ax_I (az_W B (az_ER B r)) (d + 1) q_Reader_rankOf [ax_i x0] V Φ Θ := by
  refine ax_T.of (M := m_Reader_rankOf) rfl (Nat.le_of_ble_eq_true rfl) ?_
  refine ax_mv 0 0 [some (ax_i x0)] [] rfl ?_
  refine ax_mv 1 1 [some (ax_i x0)] [ax_i x0] rfl ?_
  have t0 : (x0 = 7) → ax_R (az_W B (az_ER B r)) ax_t d m_Reader_rankOf 60 [some (ax_i x0)] [] V (ax_Ir Φ) Θ := fun hk => by
    have h := h.1 hk
    refine ax_mv 1 61 [some (ax_i x0)] [ax_i 0] rfl ?_
    exact ax_iret ⟨_, rfl⟩ rfl rfl (by decide) hg h
  have t1 : (x0 = 8) → ax_R (az_W B (az_ER B r)) ax_t d m_Reader_rankOf 62 [some (ax_i x0)] [] V (ax_Ir Φ) Θ := fun hk => by
    have h := h.2.1 hk
    refine ax_mv 1 63 [some (ax_i x0)] [ax_i 1] rfl ?_
    exact ax_iret ⟨_, rfl⟩ rfl rfl (by decide) hg h
  have t2 : (x0 = 13) → ax_R (az_W B (az_ER B r)) ax_t d m_Reader_rankOf 64 [some (ax_i x0)] [] V (ax_Ir Φ) Θ := fun hk => by
    have h := h.2.2.1 hk
    refine ax_mv 1 65 [some (ax_i x0)] [ax_i 3] rfl ?_
    exact ax_iret ⟨_, rfl⟩ rfl rfl (by decide) hg h
  have t3 : (x0 = 14) → ax_R (az_W B (az_ER B r)) ax_t d m_Reader_rankOf 66 [some (ax_i x0)] [] V (ax_Ir Φ) Θ := fun hk => by
    have h := h.2.2.2.1 hk
    refine ax_mv 1 67 [some (ax_i x0)] [ax_i 3] rfl ?_
    exact ax_iret ⟨_, rfl⟩ rfl rfl (by decide) hg h
  have t4 : (x0 = 15) → ax_R (az_W B (az_ER B r)) ax_t d m_Reader_rankOf 68 [some (ax_i x0)] [] V (ax_Ir Φ) Θ := fun hk => by
    have h := h.2.2.2.2.1 hk
    refine ax_mv 1 69 [some (ax_i x0)] [ax_i 4] rfl ?_
    exact ax_iret ⟨_, rfl⟩ rfl rfl (by decide) hg h
  have t5 : (x0 = 16) → ax_R (az_W B (az_ER B r)) ax_t d m_Reader_rankOf 70 [some (ax_i x0)] [] V (ax_Ir Φ) Θ := fun hk => by
    have h := h.2.2.2.2.2.1 hk
    refine ax_mv 1 71 [some (ax_i x0)] [ax_i 4] rfl ?_
    exact ax_iret ⟨_, rfl⟩ rfl rfl (by decide) hg h
  have t6 : (x0 = 17) → ax_R (az_W B (az_ER B r)) ax_t d m_Reader_rankOf 72 [some (ax_i x0)] [] V (ax_Ir Φ) Θ := fun hk => by
    have h := h.2.2.2.2.2.2.1 hk
    refine ax_mv 1 73 [some (ax_i x0)] [ax_i 4] rfl ?_
    exact ax_iret ⟨_, rfl⟩ rfl rfl (by decide) hg h
  have tD : ¬ x0 = 7 → ¬ x0 = 8 → ¬ x0 = 13 → ¬ x0 = 14 → ¬ x0 = 15 → ¬ x0 = 16 → ¬ x0 = 17 → ax_R (az_W B (az_ER B r)) ax_t d m_Reader_rankOf 74 [some (ax_i x0)] [] V (ax_Ir Φ) Θ := fun n0 n1 n2 n3 n4 n5 n6 => by
    have h := h.2.2.2.2.2.2.2 n0 n1 n2 n3 n4 n5 n6
    refine ax_mv 1 75 [some (ax_i x0)] [ax_i 2] rfl ?_
    exact ax_iret ⟨_, rfl⟩ rfl rfl (by decide) hg h
  by_cases e7 : x0 = 7
  · exact ax_tsC (off := 59) (p1 := 60) ⟨_, rfl⟩ hx0 (by omega) (by omega) (by rw [e7]; rfl) (by decide) (t0 (e7))
  by_cases e8 : x0 = 8
  · exact ax_tsC (off := 61) (p1 := 62) ⟨_, rfl⟩ hx0 (by omega) (by omega) (by rw [e8]; rfl) (by decide) (t1 (e8))
  by_cases e9 : x0 = 9
  · exact ax_tsC (off := 73) (p1 := 74) ⟨_, rfl⟩ hx0 (by omega) (by omega) (by rw [e9]; rfl) (by decide) (tD (by omega) (by omega) (by omega) (by omega) (by omega) (by omega) (by omega))
  by_cases e10 : x0 = 10
  · exact ax_tsC (off := 73) (p1 := 74) ⟨_, rfl⟩ hx0 (by omega) (by omega) (by rw [e10]; rfl) (by decide) (tD (by omega) (by omega) (by omega) (by omega) (by omega) (by omega) (by omega))
  by_cases e11 : x0 = 11
  · exact ax_tsC (off := 73) (p1 := 74) ⟨_, rfl⟩ hx0 (by omega) (by omega) (by rw [e11]; rfl) (by decide) (tD (by omega) (by omega) (by omega) (by omega) (by omega) (by omega) (by omega))
  by_cases e12 : x0 = 12
  · exact ax_tsC (off := 73) (p1 := 74) ⟨_, rfl⟩ hx0 (by omega) (by omega) (by rw [e12]; rfl) (by decide) (tD (by omega) (by omega) (by omega) (by omega) (by omega) (by omega) (by omega))
  by_cases e13 : x0 = 13
  · exact ax_tsC (off := 63) (p1 := 64) ⟨_, rfl⟩ hx0 (by omega) (by omega) (by rw [e13]; rfl) (by decide) (t2 (e13))
  by_cases e14 : x0 = 14
  · exact ax_tsC (off := 65) (p1 := 66) ⟨_, rfl⟩ hx0 (by omega) (by omega) (by rw [e14]; rfl) (by decide) (t3 (e14))
  by_cases e15 : x0 = 15
  · exact ax_tsC (off := 67) (p1 := 68) ⟨_, rfl⟩ hx0 (by omega) (by omega) (by rw [e15]; rfl) (by decide) (t4 (e15))
  by_cases e16 : x0 = 16
  · exact ax_tsC (off := 69) (p1 := 70) ⟨_, rfl⟩ hx0 (by omega) (by omega) (by rw [e16]; rfl) (by decide) (t5 (e16))
  by_cases e17 : x0 = 17
  · exact ax_tsC (off := 71) (p1 := 72) ⟨_, rfl⟩ hx0 (by omega) (by omega) (by rw [e17]; rfl) (by decide) (t6 (e17))
  exact ax_tsD (p1 := 74) ⟨_, rfl⟩ hx0 (by omega) (by decide) (tD e7 e8 e13 e14 e15 e16 e17)
theorem r_Reader_join {B : Nat} {r : Nat} {d : Nat} {V : ax_V} {Φ : Int → ax_V → Prop} {Θ : ax_V → Prop} {x1 : Int} {x2 : Int} {x3 : Int} {x4 : Int} {x5 : Int} (hg : ax_g V) (hx1 : ax_rg x1) (hx2 : ax_rg x2) (hx3 : ax_rg x3) (hx4 : ax_rg x4) (hx5 : ax_rg x5) (h : (0 ≤ x3 ∧ x3 < 700) ∧ ax_I (az_W B (az_ER B r)) d q_Reader_addPart [.ref r, ax_i x1, ax_i (V 518 x3), ax_i x2, ax_i 0] V (fun r1 V1 => (0 ≤ r1 ∧ r1 < 700) ∧ (∀ V2, V2 = ax_u V1 521 r1 x3 → (0 ≤ x3 ∧ x3 < 700) ∧ (∀ V3, V3 = ax_u V2 522 x3 x4 → (0 ≤ x4 ∧ x4 < 700) ∧ (∀ V4, V4 = ax_u V3 522 x4 x5 → Φ r1 V4)))) Θ) : ax_I (az_W B (az_ER B r)) (d + 1) q_Reader_join [.ref r, ax_i x1, ax_i x2, ax_i x3, ax_i x4, ax_i x5] V Φ Θ := by
  refine ax_T.of (M := m_Reader_join) rfl (Nat.le_of_ble_eq_true rfl) ?_
  refine ax_mv 0 0 [some (.ref r), some (ax_i x1), some (ax_i x2), some (ax_i x3), some (ax_i x4), some (ax_i x5), none] [] rfl ?_
  refine ax_mv 3 3 [some (.ref r), some (ax_i x1), some (ax_i x2), some (ax_i x3), some (ax_i x4), some (ax_i x5), none] [.ref r, ax_i x1, .ref r] rfl ?_
  refine ax_gR (v := .ref (B + 16)) (pc' := 6) ⟨_, rfl⟩ fl_10_35 (az_e 1 rfl) rfl rfl ?_
  refine ax_gR (v := .ref (B + 18)) (pc' := 9) ⟨_, rfl⟩ fl_10_227 (az_b 16 rfl) rfl rfl ?_
  refine ax_mv 1 10 [some (.ref r), some (ax_i x1), some (ax_i x2), some (ax_i x3), some (ax_i x4), some (ax_i x5), none] [ax_i x3, .ref (B + 18), ax_i x1, .ref r] rfl ?_
  obtain ⟨o1, h⟩ := h
  refine ax_ild (n := 700) (pc' := 11) ⟨_, rfl⟩ (az_b 18 rfl) (by decide) o1 rfl ?_
  refine ax_mv 2 13 [some (.ref r), some (ax_i x1), some (ax_i x2), some (ax_i x3), some (ax_i x4), some (ax_i x5), none] [ax_i 0, ax_i x2, ax_i (V 518 x3), ax_i x1, .ref r] rfl ?_
  refine ax_callI (pc' := 16) ⟨_, rfl⟩ ml_10_230 (rest := []) rfl (fun ss hs => ⟨_, _, (az_e 1 rfl) ss hs⟩) (Nat.le_of_ble_eq_true rfl) rfl rfl h (fun r1 V1 hg1 hr1 h => ?_)
  refine ax_sti (i := 0) (k := 6) (n := 2) (pc' := 18) (L' := [some (.ref r), some (ax_i x1), some (ax_i x2), some (ax_i x3), some (ax_i x4), some (ax_i x5), some (ax_i r1)]) ⟨_, rfl⟩ rfl rfl rfl (Nat.le_of_ble_eq_true rfl) rfl rfl ?_
  refine ax_mv 1 19 [some (.ref r), some (ax_i x1), some (ax_i x2), some (ax_i x3), some (ax_i x4), some (ax_i x5), some (ax_i r1)] [.ref r] rfl ?_
  refine ax_gR (v := .ref (B + 16)) (pc' := 22) ⟨_, rfl⟩ fl_10_35 (az_e 1 rfl) rfl rfl ?_
  refine ax_gR (v := .ref (B + 21)) (pc' := 25) ⟨_, rfl⟩ fl_10_233 (az_b 16 rfl) rfl rfl ?_
  refine ax_mv 2 28 [some (.ref r), some (ax_i x1), some (ax_i x2), some (ax_i x3), some (ax_i x4), some (ax_i x5), some (ax_i r1)] [ax_i x3, ax_i r1, .ref (B + 21)] rfl ?_
  obtain ⟨o2, h⟩ := h
  obtain ⟨V2, eV2⟩ : ∃ W9 : ax_V, W9 = ax_u V1 521 r1 x3 := ⟨_, rfl⟩
  have h := h V2 eV2
  have hg2 : ax_g V2 := eV2 ▸ ax_u_g hg1 hx3
  refine ax_ist (n := 700) (pc' := 29) ⟨_, rfl⟩ az_ok (az_b 21 rfl) (by decide) o2 eV2 rfl ?_
  refine ax_mv 1 30 [some (.ref r), some (ax_i x1), some (ax_i x2), some (ax_i x3), some (ax_i x4), some (ax_i x5), some (ax_i r1)] [.ref r] rfl ?_
  refine ax_gR (v := .ref (B + 16)) (pc' := 33) ⟨_, rfl⟩ fl_10_35 (az_e 1 rfl) rfl rfl ?_
  refine ax_gR (v := .ref (B + 22)) (pc' := 36) ⟨_, rfl⟩ fl_10_236 (az_b 16 rfl) rfl rfl ?_
  refine ax_mv 2 39 [some (.ref r), some (ax_i x1), some (ax_i x2), some (ax_i x3), some (ax_i x4), some (ax_i x5), some (ax_i r1)] [ax_i x4, ax_i x3, .ref (B + 22)] rfl ?_
  obtain ⟨o3, h⟩ := h
  obtain ⟨V3, eV3⟩ : ∃ W9 : ax_V, W9 = ax_u V2 522 x3 x4 := ⟨_, rfl⟩
  have h := h V3 eV3
  have hg3 : ax_g V3 := eV3 ▸ ax_u_g hg2 hx4
  refine ax_ist (n := 700) (pc' := 40) ⟨_, rfl⟩ az_ok (az_b 22 rfl) (by decide) o3 eV3 rfl ?_
  refine ax_mv 1 41 [some (.ref r), some (ax_i x1), some (ax_i x2), some (ax_i x3), some (ax_i x4), some (ax_i x5), some (ax_i r1)] [.ref r] rfl ?_
  refine ax_gR (v := .ref (B + 16)) (pc' := 44) ⟨_, rfl⟩ fl_10_35 (az_e 1 rfl) rfl rfl ?_
  refine ax_gR (v := .ref (B + 22)) (pc' := 47) ⟨_, rfl⟩ fl_10_236 (az_b 16 rfl) rfl rfl ?_
  refine ax_mv 2 51 [some (.ref r), some (ax_i x1), some (ax_i x2), some (ax_i x3), some (ax_i x4), some (ax_i x5), some (ax_i r1)] [ax_i x5, ax_i x4, .ref (B + 22)] rfl ?_
  obtain ⟨o4, h⟩ := h
  obtain ⟨V4, eV4⟩ : ∃ W9 : ax_V, W9 = ax_u V3 522 x4 x5 := ⟨_, rfl⟩
  have h := h V4 eV4
  have hg4 : ax_g V4 := eV4 ▸ ax_u_g hg3 hx5
  refine ax_ist (n := 700) (pc' := 52) ⟨_, rfl⟩ az_ok (az_b 22 rfl) (by decide) o4 eV4 rfl ?_
  refine ax_mv 1 54 [some (.ref r), some (ax_i x1), some (ax_i x2), some (ax_i x3), some (ax_i x4), some (ax_i x5), some (ax_i r1)] [ax_i r1] rfl ?_
  exact ax_iret ⟨_, rfl⟩ rfl rfl hr1 hg4 h
abbrev k_Reader_readMove_39 (B : Nat) (r : Nat) (d : Nat) (y1 : Option Value) (s0 : Int) (s1 : Int) (V : ax_V) (Φ : ax_V → Prop) (Θ : ax_V → Prop) : Prop := ax_R (az_W B (az_ER B r)) ax_t d m_Reader_readMove 39 [some (.ref r), y1] [ax_i s0, ax_i s1, .ref (B + 56)] V (ax_Nr Φ) Θ
abbrev k_Reader_readMove_105 (B : Nat) (r : Nat) (d : Nat) (x1 : Int) (V : ax_V) (Φ : ax_V → Prop) (Θ : ax_V → Prop) : Prop := ax_R (az_W B (az_ER B r)) ax_t d m_Reader_readMove 105 [some (.ref r), some (ax_i x1)] [] V (ax_Nr Φ) Θ
abbrev k_Reader_readMove_152 (B : Nat) (r : Nat) (d : Nat) (x1 : Int) (V : ax_V) (Φ : ax_V → Prop) (Θ : ax_V → Prop) : Prop := ax_R (az_W B (az_ER B r)) ax_t d m_Reader_readMove 152 [some (.ref r), some (ax_i x1)] [] V (ax_Nr Φ) Θ
set_option maxRecDepth 20000 in
theorem r_Reader_readMove_39 {B : Nat} {r : Nat} {d : Nat} {V : ax_V} {Φ : ax_V → Prop} {Θ : ax_V → Prop} {y1 : Option Value} {s0 : Int} {s1 : Int} (hg : ax_g V) (hy1 : ax_y y1) (hs0 : ax_rg s0) (hs1 : ax_rg s1) (h : ax_I (az_W B (az_ER B r)) d q_Automata_addMove [.ref (B + 56), ax_i s1, ax_i s0, ax_i (V 516 0)] V (fun r1 V1 => ax_rg ((V1 600 6) + 1) ∧ (∀ V2, V2 = ax_u V1 600 6 ((V1 600 6) + 1) → (∀ V3, V3 = ax_u V2 600 10 1 → ax_I (az_W B (az_ER B r)) d q_Reader_readX [.ref r] V3 (fun r4 V4 => (0 ≤ r1 ∧ r1 < 350) ∧ (∀ V5, V5 = ax_u V4 571 r1 r4 → (∀ V6, V6 = ax_u V5 600 10 0 → ax_I (az_W B (az_ER B r)) d q_Reader_look [.ref r] V6 (fun r7 V7 => ((r7 = 62 → k_Reader_readMove_105 B r d r1 V7 Φ Θ) ∧ (¬ r7 = 62 → ax_I (az_W B (az_ER B r)) d q_Reader_look [.ref r] V7 (fun r8 V8 => ((r8 = 126 → k_Reader_readMove_105 B r d r1 V8 Φ Θ) ∧ (¬ r8 = 126 → ax_N (az_W B (az_ER B r)) d q_Reader_refuse [.ref r] V8 (fun V9 => k_Reader_readMove_105 B r d r1 V9 Φ Θ) Θ))) Θ))) Θ))) Θ))) Θ) : k_Reader_readMove_39 B r d y1 s0 s1 V Φ Θ := by
  refine ax_mv 1 40 [some (.ref r), y1] [.ref r, ax_i s0, ax_i s1, .ref (B + 56)] rfl ?_
  refine ax_gR (v := .ref (B + 16)) (pc' := 43) ⟨_, rfl⟩ fl_10_35 (az_e 1 rfl) rfl rfl ?_
  refine ax_gI (kI := 0) (pc' := 46) ⟨_, rfl⟩ fl_10_154 (az_b 16 rfl) rfl rfl rfl ?_
  refine ax_callI (pc' := 49) ⟨_, rfl⟩ ml_10_195 (rest := []) rfl (fun ss hs => ⟨_, _, (az_b 56 rfl) ss hs⟩) (Nat.le_of_ble_eq_true rfl) rfl rfl h (fun r1 V1 hg1 hr1 h => ?_)
  refine ax_sti (i := 0) (k := 1) (n := 1) (pc' := 50) (L' := [some (.ref r), some (ax_i r1)]) ⟨_, rfl⟩ rfl rfl rfl (Nat.le_of_ble_eq_true rfl) rfl rfl ?_
  refine ax_mv 2 52 [some (.ref r), some (ax_i r1)] [.ref r, .ref r] rfl ?_
  refine ax_gI (kI := 6) (pc' := 55) ⟨_, rfl⟩ fl_10_49 (az_e 1 rfl) rfl rfl rfl ?_
  refine ax_mv 1 56 [some (.ref r), some (ax_i r1)] [ax_i 1, ax_i (V1 600 6), .ref r] rfl ?_
  refine ax_add (pc' := 57) ⟨_, rfl⟩ rfl ?_
  obtain ⟨o1, h⟩ := h
  obtain ⟨V2, eV2⟩ : ∃ W9 : ax_V, W9 = ax_u V1 600 6 ((V1 600 6) + 1) := ⟨_, rfl⟩
  have h := h V2 eV2
  have hg2 : ax_g V2 := eV2 ▸ ax_u_g hg1 o1
  refine ax_pI (kI := 6) (pc' := 60) ⟨_, rfl⟩ fl_10_49 az_ok (az_e 1 rfl) rfl rfl rfl rfl eV2 rfl ?_
  refine ax_mv 2 62 [some (.ref r), some (ax_i r1)] [ax_i 1, .ref r] rfl ?_
  obtain ⟨V3, eV3⟩ : ∃ W9 : ax_V, W9 = ax_u V2 600 10 1 := ⟨_, rfl⟩
  have h := h V3 eV3
  have hg3 : ax_g V3 := eV3 ▸ ax_u_g hg2 (by decide)
  refine ax_pI (kI := 10) (pc' := 65) ⟨_, rfl⟩ fl_10_199 az_ok (az_e 1 rfl) rfl rfl (ax_nbv (by decide)) rfl eV3 rfl ?_
  refine ax_mv 1 66 [some (.ref r), some (ax_i r1)] [.ref r] rfl ?_
  refine ax_gR (v := .ref (B + 56)) (pc' := 69) ⟨_, rfl⟩ fl_10_45 (az_e 1 rfl) rfl rfl ?_
  refine ax_gR (v := .ref (B + 71)) (pc' := 72) ⟨_, rfl⟩ fl_10_203 (az_b 56 rfl) rfl rfl ?_
  refine ax_mv 2 74 [some (.ref r), some (ax_i r1)] [.ref r, ax_i r1, .ref (B + 71)] rfl ?_
  refine ax_callI (pc' := 77) ⟨_, rfl⟩ ml_10_166 (rest := [ax_i r1, .ref (B + 71)]) rfl (fun ss hs => ⟨_, _, (az_e 1 rfl) ss hs⟩) (Nat.le_of_ble_eq_true rfl) rfl rfl h (fun r4 V4 hg4 hr4 h => ?_)
  obtain ⟨o2, h⟩ := h
  obtain ⟨V5, eV5⟩ : ∃ W9 : ax_V, W9 = ax_u V4 571 r1 r4 := ⟨_, rfl⟩
  have h := h V5 eV5
  have hg5 : ax_g V5 := eV5 ▸ ax_u_g hg4 hr4
  refine ax_ist (n := 350) (pc' := 78) ⟨_, rfl⟩ az_ok (az_b 71 rfl) (by decide) o2 eV5 rfl ?_
  refine ax_mv 2 80 [some (.ref r), some (ax_i r1)] [ax_i 0, .ref r] rfl ?_
  obtain ⟨V6, eV6⟩ : ∃ W9 : ax_V, W9 = ax_u V5 600 10 0 := ⟨_, rfl⟩
  have h := h V6 eV6
  have hg6 : ax_g V6 := eV6 ▸ ax_u_g hg5 (by decide)
  refine ax_pI (kI := 10) (pc' := 83) ⟨_, rfl⟩ fl_10_199 az_ok (az_e 1 rfl) rfl rfl (ax_nbv (by decide)) rfl eV6 rfl ?_
  refine ax_mv 1 84 [some (.ref r), some (ax_i r1)] [.ref r] rfl ?_
  refine ax_callI (pc' := 87) ⟨_, rfl⟩ ml_10_56 (rest := []) rfl (fun ss hs => ⟨_, _, (az_e 1 rfl) ss hs⟩) (Nat.le_of_ble_eq_true rfl) rfl rfl h (fun r7 V7 hg7 hr7 h => ?_)
  refine ax_bip (pc' := 89) ⟨_, rfl⟩ (by decide) rfl ?_
  refine ax_if2 (p1 := 105) (p2 := 92) ⟨_, rfl⟩ (by decide) rfl hr7 (by decide) (fun hc => ?_) (fun hc => ?_)
  · have h := h.1 hc
    exact h
  · have h := h.2 hc
    refine ax_mv 1 93 [some (.ref r), some (ax_i r1)] [.ref r] rfl ?_
    refine ax_callI (pc' := 96) ⟨_, rfl⟩ ml_10_56 (rest := []) rfl (fun ss hs => ⟨_, _, (az_e 1 rfl) ss hs⟩) (Nat.le_of_ble_eq_true rfl) rfl rfl h (fun r8 V8 hg8 hr8 h => ?_)
    refine ax_bip (pc' := 98) ⟨_, rfl⟩ (by decide) rfl ?_
    refine ax_if2 (p1 := 105) (p2 := 101) ⟨_, rfl⟩ (by decide) rfl hr8 (by decide) (fun hc => ?_) (fun hc => ?_)
    · have h := h.1 hc
      exact h
    · have h := h.2 hc
      refine ax_mv 1 102 [some (.ref r), some (ax_i r1)] [.ref r] rfl ?_
      refine ax_callN (pc' := 105) ⟨_, rfl⟩ ml_10_84 (rest := []) rfl (fun ss hs => ⟨_, _, (az_e 1 rfl) ss hs⟩) (Nat.le_of_ble_eq_true rfl) rfl rfl h (fun V9 hg9 h => ?_)
      exact h
set_option maxRecDepth 20000 in
theorem r_Reader_readMove_105 {B : Nat} {r : Nat} {d : Nat} {V : ax_V} {Φ : ax_V → Prop} {Θ : ax_V → Prop} {x1 : Int} (hg : ax_g V) (hx1 : ax_rg x1) (h : ax_I (az_W B (az_ER B r)) d q_Reader_look [.ref r] V (fun r1 V1 => ((r1 = 62 → (0 ≤ x1 ∧ x1 < 350) ∧ (∀ V7, V7 = ax_u V1 569 x1 1 → ax_rg ((V7 600 6) + 1) ∧ (∀ V8, V8 = ax_u V7 600 6 ((V7 600 6) + 1) → ax_I (az_W B (az_ER B r)) d q_Reader_look [.ref r] V8 (fun r9 V9 => ax_I (az_W B (az_ER B r)) d q_Reader_isDigit [ax_i r9] V9 (fun r10 V10 => ((r10 = 0 → ax_N (az_W B (az_ER B r)) d q_Reader_refuse [.ref r] V10 (fun V11 => k_Reader_readMove_152 B r d x1 V11 Φ Θ) Θ) ∧ (¬ r10 = 0 → k_Reader_readMove_152 B r d x1 V10 Φ Θ))) (fun _ => False)) Θ))) ∧ (¬ r1 = 62 → (0 ≤ x1 ∧ x1 < 350) ∧ (∀ V2, V2 = ax_u V1 569 x1 0 → ax_rg ((V2 600 6) + 1) ∧ (∀ V3, V3 = ax_u V2 600 6 ((V2 600 6) + 1) → ax_I (az_W B (az_ER B r)) d q_Reader_look [.ref r] V3 (fun r4 V4 => ax_I (az_W B (az_ER B r)) d q_Reader_isDigit [ax_i r4] V4 (fun r5 V5 => ((r5 = 0 → ax_N (az_W B (az_ER B r)) d q_Reader_refuse [.ref r] V5 (fun V6 => k_Reader_readMove_152 B r d x1 V6 Φ Θ) Θ) ∧ (¬ r5 = 0 → k_Reader_readMove_152 B r d x1 V5 Φ Θ))) (fun _ => False)) Θ))))) Θ) : k_Reader_readMove_105 B r d x1 V Φ Θ := by
  refine ax_mv 1 106 [some (.ref r), some (ax_i x1)] [.ref r] rfl ?_
  refine ax_gR (v := .ref (B + 56)) (pc' := 109) ⟨_, rfl⟩ fl_10_45 (az_e 1 rfl) rfl rfl ?_
  refine ax_gR (v := .ref (B + 69)) (pc' := 112) ⟨_, rfl⟩ fl_10_206 (az_b 56 rfl) rfl rfl ?_
  refine ax_mv 2 114 [some (.ref r), some (ax_i x1)] [.ref r, ax_i x1, .ref (B + 69)] rfl ?_
  refine ax_callI (pc' := 117) ⟨_, rfl⟩ ml_10_56 (rest := [ax_i x1, .ref (B + 69)]) rfl (fun ss hs => ⟨_, _, (az_e 1 rfl) ss hs⟩) (Nat.le_of_ble_eq_true rfl) rfl rfl h (fun r1 V1 hg1 hr1 h => ?_)
  refine ax_bip (pc' := 119) ⟨_, rfl⟩ (by decide) rfl ?_
  refine ax_if2 (p1 := 126) (p2 := 122) ⟨_, rfl⟩ (by decide) rfl hr1 (by decide) (fun hc => ?_) (fun hc => ?_)
  · have h := h.2 hc
    refine ax_mv 1 127 [some (.ref r), some (ax_i x1)] [ax_i 0, ax_i x1, .ref (B + 69)] rfl ?_
    obtain ⟨o3, h⟩ := h
    obtain ⟨V2, eV2⟩ : ∃ W9 : ax_V, W9 = ax_u V1 569 x1 0 := ⟨_, rfl⟩
    have h := h V2 eV2
    have hg2 : ax_g V2 := eV2 ▸ ax_u_g hg1 (by decide)
    refine ax_bst (n := 350) (pc' := 128) ⟨_, rfl⟩ az_ok (az_b 69 rfl) (by decide) o3 (by decide) eV2 rfl ?_
    refine ax_mv 2 130 [some (.ref r), some (ax_i x1)] [.ref r, .ref r] rfl ?_
    refine ax_gI (kI := 6) (pc' := 133) ⟨_, rfl⟩ fl_10_49 (az_e 1 rfl) rfl rfl rfl ?_
    refine ax_mv 1 134 [some (.ref r), some (ax_i x1)] [ax_i 1, ax_i (V2 600 6), .ref r] rfl ?_
    refine ax_add (pc' := 135) ⟨_, rfl⟩ rfl ?_
    obtain ⟨o4, h⟩ := h
    obtain ⟨V3, eV3⟩ : ∃ W9 : ax_V, W9 = ax_u V2 600 6 ((V2 600 6) + 1) := ⟨_, rfl⟩
    have h := h V3 eV3
    have hg3 : ax_g V3 := eV3 ▸ ax_u_g hg2 o4
    refine ax_pI (kI := 6) (pc' := 138) ⟨_, rfl⟩ fl_10_49 az_ok (az_e 1 rfl) rfl rfl rfl rfl eV3 rfl ?_
    refine ax_mv 1 139 [some (.ref r), some (ax_i x1)] [.ref r] rfl ?_
    refine ax_callI (pc' := 142) ⟨_, rfl⟩ ml_10_56 (rest := []) rfl (fun ss hs => ⟨_, _, (az_e 1 rfl) ss hs⟩) (Nat.le_of_ble_eq_true rfl) rfl rfl h (fun r4 V4 hg4 hr4 h => ?_)
    refine ax_callS (pc' := 145) ⟨_, rfl⟩ ml_10_94 (Nat.le_of_ble_eq_true rfl) (Nat.le_of_ble_eq_true rfl) rfl h (fun r5 V5 hg5 hr5 h => ?_)
    refine ax_mv 0 145 [some (.ref r), some (ax_i x1)] [ax_i r5] rfl ?_
    refine ax_if (p1 := 152) (p2 := 148) ⟨_, rfl⟩ (by decide) rfl hr5 (fun hc => ?_) (fun hc => ?_)
    · have h := h.2 hc
      exact h
    · have h := h.1 (Classical.not_not.mp hc)
      refine ax_mv 1 149 [some (.ref r), some (ax_i x1)] [.ref r] rfl ?_
      refine ax_callN (pc' := 152) ⟨_, rfl⟩ ml_10_84 (rest := []) rfl (fun ss hs => ⟨_, _, (az_e 1 rfl) ss hs⟩) (Nat.le_of_ble_eq_true rfl) rfl rfl h (fun V6 hg6 h => ?_)
      exact h
  · have h := h.1 (Classical.not_not.mp hc)
    refine ax_mv 2 127 [some (.ref r), some (ax_i x1)] [ax_i 1, ax_i x1, .ref (B + 69)] rfl ?_
    obtain ⟨o5, h⟩ := h
    obtain ⟨V7, eV7⟩ : ∃ W9 : ax_V, W9 = ax_u V1 569 x1 1 := ⟨_, rfl⟩
    have h := h V7 eV7
    have hg7 : ax_g V7 := eV7 ▸ ax_u_g hg1 (by decide)
    refine ax_bst (n := 350) (pc' := 128) ⟨_, rfl⟩ az_ok (az_b 69 rfl) (by decide) o5 (by decide) eV7 rfl ?_
    refine ax_mv 2 130 [some (.ref r), some (ax_i x1)] [.ref r, .ref r] rfl ?_
    refine ax_gI (kI := 6) (pc' := 133) ⟨_, rfl⟩ fl_10_49 (az_e 1 rfl) rfl rfl rfl ?_
    refine ax_mv 1 134 [some (.ref r), some (ax_i x1)] [ax_i 1, ax_i (V7 600 6), .ref r] rfl ?_
    refine ax_add (pc' := 135) ⟨_, rfl⟩ rfl ?_
    obtain ⟨o6, h⟩ := h
    obtain ⟨V8, eV8⟩ : ∃ W9 : ax_V, W9 = ax_u V7 600 6 ((V7 600 6) + 1) := ⟨_, rfl⟩
    have h := h V8 eV8
    have hg8 : ax_g V8 := eV8 ▸ ax_u_g hg7 o6
    refine ax_pI (kI := 6) (pc' := 138) ⟨_, rfl⟩ fl_10_49 az_ok (az_e 1 rfl) rfl rfl rfl rfl eV8 rfl ?_
    refine ax_mv 1 139 [some (.ref r), some (ax_i x1)] [.ref r] rfl ?_
    refine ax_callI (pc' := 142) ⟨_, rfl⟩ ml_10_56 (rest := []) rfl (fun ss hs => ⟨_, _, (az_e 1 rfl) ss hs⟩) (Nat.le_of_ble_eq_true rfl) rfl rfl h (fun r9 V9 hg9 hr9 h => ?_)
    refine ax_callS (pc' := 145) ⟨_, rfl⟩ ml_10_94 (Nat.le_of_ble_eq_true rfl) (Nat.le_of_ble_eq_true rfl) rfl h (fun r10 V10 hg10 hr10 h => ?_)
    refine ax_mv 0 145 [some (.ref r), some (ax_i x1)] [ax_i r10] rfl ?_
    refine ax_if (p1 := 152) (p2 := 148) ⟨_, rfl⟩ (by decide) rfl hr10 (fun hc => ?_) (fun hc => ?_)
    · have h := h.2 hc
      exact h
    · have h := h.1 (Classical.not_not.mp hc)
      refine ax_mv 1 149 [some (.ref r), some (ax_i x1)] [.ref r] rfl ?_
      refine ax_callN (pc' := 152) ⟨_, rfl⟩ ml_10_84 (rest := []) rfl (fun ss hs => ⟨_, _, (az_e 1 rfl) ss hs⟩) (Nat.le_of_ble_eq_true rfl) rfl rfl h (fun V11 hg11 h => ?_)
      exact h
set_option maxRecDepth 20000 in
theorem r_Reader_readMove_152 {B : Nat} {r : Nat} {d : Nat} {V : ax_V} {Φ : ax_V → Prop} {Θ : ax_V → Prop} {x1 : Int} (hg : ax_g V) (hx1 : ax_rg x1) (h : ax_I (az_W B (az_ER B r)) d q_Reader_look [.ref r] V (fun r1 V1 => (0 ≤ x1 ∧ x1 < 350) ∧ ax_rg (r1 - 48) ∧ (∀ V2, V2 = ax_u V1 572 x1 (r1 - 48) → (0 ≤ x1 ∧ x1 < 350) ∧ (∀ V3, V3 = ax_u V2 573 x1 (V2 600 6) → ax_rg ((V3 600 6) + 1) ∧ (∀ V4, V4 = ax_u V3 600 6 ((V3 600 6) + 1) → ax_N (az_W B (az_ER B r)) d q_Reader_expect [.ref r, ax_i 59] V4 (fun V5 => Φ V5) Θ)))) Θ) : k_Reader_readMove_152 B r d x1 V Φ Θ := by
  refine ax_mv 1 153 [some (.ref r), some (ax_i x1)] [.ref r] rfl ?_
  refine ax_gR (v := .ref (B + 56)) (pc' := 156) ⟨_, rfl⟩ fl_10_45 (az_e 1 rfl) rfl rfl ?_
  refine ax_gR (v := .ref (B + 72)) (pc' := 159) ⟨_, rfl⟩ fl_10_210 (az_b 56 rfl) rfl rfl ?_
  refine ax_mv 2 161 [some (.ref r), some (ax_i x1)] [.ref r, ax_i x1, .ref (B + 72)] rfl ?_
  refine ax_callI (pc' := 164) ⟨_, rfl⟩ ml_10_56 (rest := [ax_i x1, .ref (B + 72)]) rfl (fun ss hs => ⟨_, _, (az_e 1 rfl) ss hs⟩) (Nat.le_of_ble_eq_true rfl) rfl rfl h (fun r1 V1 hg1 hr1 h => ?_)
  refine ax_bip (pc' := 166) ⟨_, rfl⟩ (by decide) rfl ?_
  refine ax_sub (pc' := 167) ⟨_, rfl⟩ rfl ?_
  obtain ⟨o7, o8, h⟩ := h
  obtain ⟨V2, eV2⟩ : ∃ W9 : ax_V, W9 = ax_u V1 572 x1 (r1 - 48) := ⟨_, rfl⟩
  have h := h V2 eV2
  have hg2 : ax_g V2 := eV2 ▸ ax_u_g hg1 o8
  refine ax_ist (n := 350) (pc' := 168) ⟨_, rfl⟩ az_ok (az_b 72 rfl) (by decide) o7 eV2 rfl ?_
  refine ax_mv 1 169 [some (.ref r), some (ax_i x1)] [.ref r] rfl ?_
  refine ax_gR (v := .ref (B + 56)) (pc' := 172) ⟨_, rfl⟩ fl_10_45 (az_e 1 rfl) rfl rfl ?_
  refine ax_gR (v := .ref (B + 73)) (pc' := 175) ⟨_, rfl⟩ fl_10_213 (az_b 56 rfl) rfl rfl ?_
  refine ax_mv 2 177 [some (.ref r), some (ax_i x1)] [.ref r, ax_i x1, .ref (B + 73)] rfl ?_
  refine ax_gI (kI := 6) (pc' := 180) ⟨_, rfl⟩ fl_10_49 (az_e 1 rfl) rfl rfl rfl ?_
  obtain ⟨o9, h⟩ := h
  obtain ⟨V3, eV3⟩ : ∃ W9 : ax_V, W9 = ax_u V2 573 x1 (V2 600 6) := ⟨_, rfl⟩
  have h := h V3 eV3
  have hg3 : ax_g V3 := eV3 ▸ ax_u_g hg2 (hg2 _ _)
  refine ax_ist (n := 350) (pc' := 181) ⟨_, rfl⟩ az_ok (az_b 73 rfl) (by decide) o9 eV3 rfl ?_
  refine ax_mv 2 183 [some (.ref r), some (ax_i x1)] [.ref r, .ref r] rfl ?_
  refine ax_gI (kI := 6) (pc' := 186) ⟨_, rfl⟩ fl_10_49 (az_e 1 rfl) rfl rfl rfl ?_
  refine ax_mv 1 187 [some (.ref r), some (ax_i x1)] [ax_i 1, ax_i (V3 600 6), .ref r] rfl ?_
  refine ax_add (pc' := 188) ⟨_, rfl⟩ rfl ?_
  obtain ⟨o10, h⟩ := h
  obtain ⟨V4, eV4⟩ : ∃ W9 : ax_V, W9 = ax_u V3 600 6 ((V3 600 6) + 1) := ⟨_, rfl⟩
  have h := h V4 eV4
  have hg4 : ax_g V4 := eV4 ▸ ax_u_g hg3 o10
  refine ax_pI (kI := 6) (pc' := 191) ⟨_, rfl⟩ fl_10_49 az_ok (az_e 1 rfl) rfl rfl rfl rfl eV4 rfl ?_
  refine ax_mv 1 192 [some (.ref r), some (ax_i x1)] [.ref r] rfl ?_
  refine ax_bip (pc' := 194) ⟨_, rfl⟩ (by decide) rfl ?_
  refine ax_callN (pc' := 197) ⟨_, rfl⟩ ml_10_70 (rest := []) rfl (fun ss hs => ⟨_, _, (az_e 1 rfl) ss hs⟩) (Nat.le_of_ble_eq_true rfl) rfl rfl h (fun V5 hg5 h => ?_)
  exact ax_nret ⟨_, rfl⟩ rfl hg5 h
set_option maxRecDepth 20000 in
theorem r_Reader_readMove {B : Nat} {r : Nat} {d : Nat} {V : ax_V} {Φ : ax_V → Prop} {Θ : ax_V → Prop} (hg : ax_g V) (h : ((V 556 2 < 350 → ax_I (az_W B (az_ER B r)) d q_Reader_look [.ref r] V (fun r1 V1 => ((r1 = 33 → k_Reader_readMove_39 B r d none 1 (V 600 9) V1 Φ Θ) ∧ (¬ r1 = 33 → k_Reader_readMove_39 B r d none 0 (V 600 9) V1 Φ Θ))) Θ) ∧ (350 ≤ V 556 2 → ax_N (az_W B (az_ER B r)) d q_Reader_refuse [.ref r] V (fun V2 => ax_I (az_W B (az_ER B r)) d q_Reader_look [.ref r] V2 (fun r3 V3 => ((r3 = 33 → k_Reader_readMove_39 B r d none 1 (V2 600 9) V3 Φ Θ) ∧ (¬ r3 = 33 → k_Reader_readMove_39 B r d none 0 (V2 600 9) V3 Φ Θ))) Θ) Θ))) : ax_N (az_W B (az_ER B r)) (d + 1) q_Reader_readMove [.ref r] V Φ Θ := by
  refine ax_T.of (M := m_Reader_readMove) rfl (Nat.le_of_ble_eq_true rfl) ?_
  refine ax_mv 0 0 [some (.ref r), none] [] rfl ?_
  refine ax_mv 1 1 [some (.ref r), none] [.ref r] rfl ?_
  refine ax_gR (v := .ref (B + 56)) (pc' := 4) ⟨_, rfl⟩ fl_10_45 (az_e 1 rfl) rfl rfl ?_
  refine ax_gI (kI := 2) (pc' := 7) ⟨_, rfl⟩ fl_10_192 (az_b 56 rfl) rfl rfl rfl ?_
  refine ax_sip (pc' := 10) ⟨_, rfl⟩ (by decide) rfl ?_
  refine ax_if2 (p1 := 17) (p2 := 13) ⟨_, rfl⟩ (by decide) rfl (hg _ _) (by decide) (fun hc => ?_) (fun hc => ?_)
  · have h := h.1 hc
    refine ax_mv 1 18 [some (.ref r), none] [.ref r] rfl ?_
    refine ax_gR (v := .ref (B + 56)) (pc' := 21) ⟨_, rfl⟩ fl_10_45 (az_e 1 rfl) rfl rfl ?_
    refine ax_mv 1 22 [some (.ref r), none] [.ref r, .ref (B + 56)] rfl ?_
    refine ax_gI (kI := 9) (pc' := 25) ⟨_, rfl⟩ fl_10_15 (az_e 1 rfl) rfl rfl rfl ?_
    refine ax_mv 1 26 [some (.ref r), none] [.ref r, ax_i (V 600 9), .ref (B + 56)] rfl ?_
    refine ax_callI (pc' := 29) ⟨_, rfl⟩ ml_10_56 (rest := [ax_i (V 600 9), .ref (B + 56)]) rfl (fun ss hs => ⟨_, _, (az_e 1 rfl) ss hs⟩) (Nat.le_of_ble_eq_true rfl) rfl rfl h (fun r1 V1 hg1 hr1 h => ?_)
    refine ax_bip (pc' := 31) ⟨_, rfl⟩ (by decide) rfl ?_
    refine ax_if2 (p1 := 38) (p2 := 34) ⟨_, rfl⟩ (by decide) rfl hr1 (by decide) (fun hc => ?_) (fun hc => ?_)
    · have h := h.2 hc
      refine ax_mv 1 39 [some (.ref r), none] [ax_i 0, ax_i (V 600 9), .ref (B + 56)] rfl ?_
      exact h
    · have h := h.1 (Classical.not_not.mp hc)
      refine ax_mv 2 39 [some (.ref r), none] [ax_i 1, ax_i (V 600 9), .ref (B + 56)] rfl ?_
      exact h
  · have h := h.2 (Int.not_lt.mp hc)
    refine ax_mv 1 14 [some (.ref r), none] [.ref r] rfl ?_
    refine ax_callN (pc' := 17) ⟨_, rfl⟩ ml_10_84 (rest := []) rfl (fun ss hs => ⟨_, _, (az_e 1 rfl) ss hs⟩) (Nat.le_of_ble_eq_true rfl) rfl rfl h (fun V2 hg2 h => ?_)
    refine ax_mv 1 18 [some (.ref r), none] [.ref r] rfl ?_
    refine ax_gR (v := .ref (B + 56)) (pc' := 21) ⟨_, rfl⟩ fl_10_45 (az_e 1 rfl) rfl rfl ?_
    refine ax_mv 1 22 [some (.ref r), none] [.ref r, .ref (B + 56)] rfl ?_
    refine ax_gI (kI := 9) (pc' := 25) ⟨_, rfl⟩ fl_10_15 (az_e 1 rfl) rfl rfl rfl ?_
    refine ax_mv 1 26 [some (.ref r), none] [.ref r, ax_i (V2 600 9), .ref (B + 56)] rfl ?_
    refine ax_callI (pc' := 29) ⟨_, rfl⟩ ml_10_56 (rest := [ax_i (V2 600 9), .ref (B + 56)]) rfl (fun ss hs => ⟨_, _, (az_e 1 rfl) ss hs⟩) (Nat.le_of_ble_eq_true rfl) rfl rfl h (fun r3 V3 hg3 hr3 h => ?_)
    refine ax_bip (pc' := 31) ⟨_, rfl⟩ (by decide) rfl ?_
    refine ax_if2 (p1 := 38) (p2 := 34) ⟨_, rfl⟩ (by decide) rfl hr3 (by decide) (fun hc => ?_) (fun hc => ?_)
    · have h := h.2 hc
      refine ax_mv 1 39 [some (.ref r), none] [ax_i 0, ax_i (V2 600 9), .ref (B + 56)] rfl ?_
      exact h
    · have h := h.1 (Classical.not_not.mp hc)
      refine ax_mv 2 39 [some (.ref r), none] [ax_i 1, ax_i (V2 600 9), .ref (B + 56)] rfl ?_
      exact h
