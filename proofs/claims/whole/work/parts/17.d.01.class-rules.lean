/-! RULES of the methods of the class: a method each, and each loop of it. PRINTED by wip/gen/rules.py -/
abbrev k_Reader_readHead_20 (B : Nat) (r : Nat) (d : Nat) (x1 : Int) (V : ax_V) (Φ : ax_V → Prop) (Θ : ax_V → Prop) : Prop := ax_R (az_W B (az_ER B r)) ax_t d m_Reader_readHead 20 [some (.ref r), some (ax_i x1)] [] V (ax_Nr Φ) Θ
abbrev k_Reader_readHead_81 (B : Nat) (r : Nat) (d : Nat) (y1 : Option Value) (V : ax_V) (Φ : ax_V → Prop) (Θ : ax_V → Prop) : Prop := ax_R (az_W B (az_ER B r)) ax_t d m_Reader_readHead 81 [some (.ref r), y1] [] V (ax_Nr Φ) Θ
set_option maxRecDepth 20000 in
theorem r_Reader_readHead_20 {B : Nat} {r : Nat} {d : Nat} {V : ax_V} {Φ : ax_V → Prop} {Θ : ax_V → Prop} {x1 : Int} (hg : ax_g V) (hx1 : ax_rg x1) (h : (∀ V1, V1 = ax_u V 600 8 x1 → ax_I (az_W B (az_ER B r)) d q_Reader_look [.ref r] V1 (fun r2 V2 => (0 ≤ x1 ∧ x1 < 8) ∧ (∀ V3, V3 = ax_u V2 501 x1 r2 → (0 ≤ x1 ∧ x1 < 8) ∧ (∀ V4, V4 = ax_u V3 502 x1 (V3 600 6) → ax_rg ((V4 600 6) + 1) ∧ (∀ V5, V5 = ax_u V4 600 6 ((V4 600 6) + 1) → ax_N (az_W B (az_ER B r)) d q_Reader_expect [.ref r, ax_i 40] V5 (fun V6 => ax_I (az_W B (az_ER B r)) d q_Reader_look [.ref r] V6 (fun r7 V7 => ((r7 = 41 → k_Reader_readHead_81 B r d (some (ax_i x1)) V7 Φ Θ) ∧ (¬ r7 = 41 → ax_N (az_W B (az_ER B r)) d q_Reader_readFlows [.ref r, ax_i 1] V7 (fun V8 => k_Reader_readHead_81 B r d (some (ax_i x1)) V8 Φ Θ) Θ))) Θ) Θ)))) Θ)) : k_Reader_readHead_20 B r d x1 V Φ Θ := by
  refine ax_mv 2 22 [some (.ref r), some (ax_i x1)] [ax_i x1, .ref r] rfl ?_
  obtain ⟨V1, eV1⟩ : ∃ W9 : ax_V, W9 = ax_u V 600 8 x1 := ⟨_, rfl⟩
  have h := h V1 eV1
  have hg1 : ax_g V1 := eV1 ▸ ax_u_g hg hx1
  refine ax_pI (kI := 8) (pc' := 25) ⟨_, rfl⟩ fl_10_87 az_ok (az_e 1 rfl) rfl rfl rfl rfl eV1 rfl ?_
  refine ax_mv 1 26 [some (.ref r), some (ax_i x1)] [.ref r] rfl ?_
  refine ax_gR (v := .ref B) (pc' := 29) ⟨_, rfl⟩ fl_10_25 (az_e 1 rfl) rfl rfl ?_
  refine ax_gR (v := .ref (B + 1)) (pc' := 32) ⟨_, rfl⟩ fl_10_100 (az_b 0 rfl) rfl rfl ?_
  refine ax_mv 2 34 [some (.ref r), some (ax_i x1)] [.ref r, ax_i x1, .ref (B + 1)] rfl ?_
  refine ax_callI (pc' := 37) ⟨_, rfl⟩ ml_10_56 (rest := [ax_i x1, .ref (B + 1)]) rfl (fun ss hs => ⟨_, _, (az_e 1 rfl) ss hs⟩) (Nat.le_of_ble_eq_true rfl) rfl rfl h (fun r2 V2 hg2 hr2 h => ?_)
  obtain ⟨o1, h⟩ := h
  obtain ⟨V3, eV3⟩ : ∃ W9 : ax_V, W9 = ax_u V2 501 x1 r2 := ⟨_, rfl⟩
  have h := h V3 eV3
  have hg3 : ax_g V3 := eV3 ▸ ax_u_g hg2 hr2
  refine ax_ist (n := 8) (pc' := 38) ⟨_, rfl⟩ az_ok (az_b 1 rfl) (by decide) o1 eV3 rfl ?_
  refine ax_mv 1 39 [some (.ref r), some (ax_i x1)] [.ref r] rfl ?_
  refine ax_gR (v := .ref B) (pc' := 42) ⟨_, rfl⟩ fl_10_25 (az_e 1 rfl) rfl rfl ?_
  refine ax_gR (v := .ref (B + 2)) (pc' := 45) ⟨_, rfl⟩ fl_10_104 (az_b 0 rfl) rfl rfl ?_
  refine ax_mv 2 47 [some (.ref r), some (ax_i x1)] [.ref r, ax_i x1, .ref (B + 2)] rfl ?_
  refine ax_gI (kI := 6) (pc' := 50) ⟨_, rfl⟩ fl_10_49 (az_e 1 rfl) rfl rfl rfl ?_
  obtain ⟨o2, h⟩ := h
  obtain ⟨V4, eV4⟩ : ∃ W9 : ax_V, W9 = ax_u V3 502 x1 (V3 600 6) := ⟨_, rfl⟩
  have h := h V4 eV4
  have hg4 : ax_g V4 := eV4 ▸ ax_u_g hg3 (hg3 _ _)
  refine ax_ist (n := 8) (pc' := 51) ⟨_, rfl⟩ az_ok (az_b 2 rfl) (by decide) o2 eV4 rfl ?_
  refine ax_mv 2 53 [some (.ref r), some (ax_i x1)] [.ref r, .ref r] rfl ?_
  refine ax_gI (kI := 6) (pc' := 56) ⟨_, rfl⟩ fl_10_49 (az_e 1 rfl) rfl rfl rfl ?_
  refine ax_mv 1 57 [some (.ref r), some (ax_i x1)] [ax_i 1, ax_i (V4 600 6), .ref r] rfl ?_
  refine ax_add (pc' := 58) ⟨_, rfl⟩ rfl ?_
  obtain ⟨o3, h⟩ := h
  obtain ⟨V5, eV5⟩ : ∃ W9 : ax_V, W9 = ax_u V4 600 6 ((V4 600 6) + 1) := ⟨_, rfl⟩
  have h := h V5 eV5
  have hg5 : ax_g V5 := eV5 ▸ ax_u_g hg4 o3
  refine ax_pI (kI := 6) (pc' := 61) ⟨_, rfl⟩ fl_10_49 az_ok (az_e 1 rfl) rfl rfl rfl rfl eV5 rfl ?_
  refine ax_mv 1 62 [some (.ref r), some (ax_i x1)] [.ref r] rfl ?_
  refine ax_bip (pc' := 64) ⟨_, rfl⟩ (by decide) rfl ?_
  refine ax_callN (pc' := 67) ⟨_, rfl⟩ ml_10_70 (rest := []) rfl (fun ss hs => ⟨_, _, (az_e 1 rfl) ss hs⟩) (Nat.le_of_ble_eq_true rfl) rfl rfl h (fun V6 hg6 h => ?_)
  refine ax_mv 1 68 [some (.ref r), some (ax_i x1)] [.ref r] rfl ?_
  refine ax_callI (pc' := 71) ⟨_, rfl⟩ ml_10_56 (rest := []) rfl (fun ss hs => ⟨_, _, (az_e 1 rfl) ss hs⟩) (Nat.le_of_ble_eq_true rfl) rfl rfl h (fun r7 V7 hg7 hr7 h => ?_)
  refine ax_bip (pc' := 73) ⟨_, rfl⟩ (by decide) rfl ?_
  refine ax_if2 (p1 := 81) (p2 := 76) ⟨_, rfl⟩ (by decide) rfl hr7 (by decide) (fun hc => ?_) (fun hc => ?_)
  · have h := h.1 hc
    exact h
  · have h := h.2 hc
    refine ax_mv 2 78 [some (.ref r), some (ax_i x1)] [ax_i 1, .ref r] rfl ?_
    refine ax_callN (pc' := 81) ⟨_, rfl⟩ ml_10_107 (rest := []) rfl (fun ss hs => ⟨_, _, (az_e 1 rfl) ss hs⟩) (Nat.le_of_ble_eq_true rfl) rfl rfl h (fun V8 hg8 h => ?_)
    exact h
set_option maxRecDepth 20000 in
theorem r_Reader_readHead_81 {B : Nat} {r : Nat} {d : Nat} {V : ax_V} {Φ : ax_V → Prop} {Θ : ax_V → Prop} {y1 : Option Value} (hg : ax_g V) (hy1 : ax_y y1) (h : ax_N (az_W B (az_ER B r)) d q_Reader_expect [.ref r, ax_i 41] V (fun V1 => ax_N (az_W B (az_ER B r)) d q_Reader_readFlows [.ref r, ax_i 2] V1 (fun V2 => ax_I (az_W B (az_ER B r)) d q_Reader_look [.ref r] V2 (fun r3 V3 => ((r3 = 124 → ax_rg ((V3 600 6) + 1) ∧ (∀ V5, V5 = ax_u V3 600 6 ((V3 600 6) + 1) → ax_N (az_W B (az_ER B r)) d q_Reader_readFlows [.ref r, ax_i 3] V5 (fun V6 => ax_N (az_W B (az_ER B r)) d q_Reader_expect [.ref r, ax_i 123] V6 (fun V7 => Φ V7) Θ) Θ)) ∧ (¬ r3 = 124 → ax_N (az_W B (az_ER B r)) d q_Reader_expect [.ref r, ax_i 123] V3 (fun V4 => Φ V4) Θ))) Θ) Θ) Θ) : k_Reader_readHead_81 B r d y1 V Φ Θ := by
  refine ax_mv 1 82 [some (.ref r), y1] [.ref r] rfl ?_
  refine ax_bip (pc' := 84) ⟨_, rfl⟩ (by decide) rfl ?_
  refine ax_callN (pc' := 87) ⟨_, rfl⟩ ml_10_70 (rest := []) rfl (fun ss hs => ⟨_, _, (az_e 1 rfl) ss hs⟩) (Nat.le_of_ble_eq_true rfl) rfl rfl h (fun V1 hg1 h => ?_)
  refine ax_mv 2 89 [some (.ref r), y1] [ax_i 2, .ref r] rfl ?_
  refine ax_callN (pc' := 92) ⟨_, rfl⟩ ml_10_107 (rest := []) rfl (fun ss hs => ⟨_, _, (az_e 1 rfl) ss hs⟩) (Nat.le_of_ble_eq_true rfl) rfl rfl h (fun V2 hg2 h => ?_)
  refine ax_mv 1 93 [some (.ref r), y1] [.ref r] rfl ?_
  refine ax_callI (pc' := 96) ⟨_, rfl⟩ ml_10_56 (rest := []) rfl (fun ss hs => ⟨_, _, (az_e 1 rfl) ss hs⟩) (Nat.le_of_ble_eq_true rfl) rfl rfl h (fun r3 V3 hg3 hr3 h => ?_)
  refine ax_bip (pc' := 98) ⟨_, rfl⟩ (by decide) rfl ?_
  refine ax_if2 (p1 := 116) (p2 := 101) ⟨_, rfl⟩ (by decide) rfl hr3 (by decide) (fun hc => ?_) (fun hc => ?_)
  · have h := h.2 hc
    refine ax_mv 1 117 [some (.ref r), y1] [.ref r] rfl ?_
    refine ax_bip (pc' := 119) ⟨_, rfl⟩ (by decide) rfl ?_
    refine ax_callN (pc' := 122) ⟨_, rfl⟩ ml_10_70 (rest := []) rfl (fun ss hs => ⟨_, _, (az_e 1 rfl) ss hs⟩) (Nat.le_of_ble_eq_true rfl) rfl rfl h (fun V4 hg4 h => ?_)
    exact ax_nret ⟨_, rfl⟩ rfl hg4 h
  · have h := h.1 (Classical.not_not.mp hc)
    refine ax_mv 2 103 [some (.ref r), y1] [.ref r, .ref r] rfl ?_
    refine ax_gI (kI := 6) (pc' := 106) ⟨_, rfl⟩ fl_10_49 (az_e 1 rfl) rfl rfl rfl ?_
    refine ax_mv 1 107 [some (.ref r), y1] [ax_i 1, ax_i (V3 600 6), .ref r] rfl ?_
    refine ax_add (pc' := 108) ⟨_, rfl⟩ rfl ?_
    obtain ⟨o4, h⟩ := h
    obtain ⟨V5, eV5⟩ : ∃ W9 : ax_V, W9 = ax_u V3 600 6 ((V3 600 6) + 1) := ⟨_, rfl⟩
    have h := h V5 eV5
    have hg5 : ax_g V5 := eV5 ▸ ax_u_g hg3 o4
    refine ax_pI (kI := 6) (pc' := 111) ⟨_, rfl⟩ fl_10_49 az_ok (az_e 1 rfl) rfl rfl rfl rfl eV5 rfl ?_
    refine ax_mv 2 113 [some (.ref r), y1] [ax_i 3, .ref r] rfl ?_
    refine ax_callN (pc' := 116) ⟨_, rfl⟩ ml_10_107 (rest := []) rfl (fun ss hs => ⟨_, _, (az_e 1 rfl) ss hs⟩) (Nat.le_of_ble_eq_true rfl) rfl rfl h (fun V6 hg6 h => ?_)
    refine ax_mv 1 117 [some (.ref r), y1] [.ref r] rfl ?_
    refine ax_bip (pc' := 119) ⟨_, rfl⟩ (by decide) rfl ?_
    refine ax_callN (pc' := 122) ⟨_, rfl⟩ ml_10_70 (rest := []) rfl (fun ss hs => ⟨_, _, (az_e 1 rfl) ss hs⟩) (Nat.le_of_ble_eq_true rfl) rfl rfl h (fun V7 hg7 h => ?_)
    exact ax_nret ⟨_, rfl⟩ rfl hg7 h
set_option maxRecDepth 20000 in
theorem r_Reader_readHead {B : Nat} {r : Nat} {d : Nat} {V : ax_V} {Φ : ax_V → Prop} {Θ : ax_V → Prop} {x1 : Int} (hg : ax_g V) (hx1 : ax_rg x1) (h : ((8 ≤ x1 → ax_N (az_W B (az_ER B r)) d q_Reader_refuse [.ref r] V (fun V1 => k_Reader_readHead_20 B r d x1 V1 Φ Θ) Θ) ∧ (x1 < 8 → ax_I (az_W B (az_ER B r)) d q_Reader_look [.ref r] V (fun r2 V2 => ax_I (az_W B (az_ER B r)) d q_Reader_isName [ax_i r2] V2 (fun r3 V3 => ((r3 = 0 → ax_N (az_W B (az_ER B r)) d q_Reader_refuse [.ref r] V3 (fun V4 => k_Reader_readHead_20 B r d x1 V4 Φ Θ) Θ) ∧ (¬ r3 = 0 → k_Reader_readHead_20 B r d x1 V3 Φ Θ))) (fun _ => False)) Θ))) : ax_N (az_W B (az_ER B r)) (d + 1) q_Reader_readHead [.ref r, ax_i x1] V Φ Θ := by
  refine ax_T.of (M := m_Reader_readHead) rfl (Nat.le_of_ble_eq_true rfl) ?_
  refine ax_mv 0 0 [some (.ref r), some (ax_i x1)] [] rfl ?_
  refine ax_mv 1 1 [some (.ref r), some (ax_i x1)] [ax_i x1] rfl ?_
  refine ax_bip (pc' := 3) ⟨_, rfl⟩ (by decide) rfl ?_
  refine ax_if2 (p1 := 16) (p2 := 6) ⟨_, rfl⟩ (by decide) rfl hx1 (by decide) (fun hc => ?_) (fun hc => ?_)
  · have h := h.1 hc
    refine ax_mv 1 17 [some (.ref r), some (ax_i x1)] [.ref r] rfl ?_
    refine ax_callN (pc' := 20) ⟨_, rfl⟩ ml_10_84 (rest := []) rfl (fun ss hs => ⟨_, _, (az_e 1 rfl) ss hs⟩) (Nat.le_of_ble_eq_true rfl) rfl rfl h (fun V1 hg1 h => ?_)
    exact h
  · have h := h.2 (Int.not_le.mp hc)
    refine ax_mv 1 7 [some (.ref r), some (ax_i x1)] [.ref r] rfl ?_
    refine ax_callI (pc' := 10) ⟨_, rfl⟩ ml_10_56 (rest := []) rfl (fun ss hs => ⟨_, _, (az_e 1 rfl) ss hs⟩) (Nat.le_of_ble_eq_true rfl) rfl rfl h (fun r2 V2 hg2 hr2 h => ?_)
    refine ax_callS (pc' := 13) ⟨_, rfl⟩ ml_10_97 (Nat.le_of_ble_eq_true rfl) (Nat.le_of_ble_eq_true rfl) rfl h (fun r3 V3 hg3 hr3 h => ?_)
    refine ax_mv 0 13 [some (.ref r), some (ax_i x1)] [ax_i r3] rfl ?_
    refine ax_if (p1 := 20) (p2 := 16) ⟨_, rfl⟩ (by decide) rfl hr3 (fun hc => ?_) (fun hc => ?_)
    · have h := h.2 hc
      exact h
    · have h := h.1 (Classical.not_not.mp hc)
      refine ax_mv 1 17 [some (.ref r), some (ax_i x1)] [.ref r] rfl ?_
      refine ax_callN (pc' := 20) ⟨_, rfl⟩ ml_10_84 (rest := []) rfl (fun ss hs => ⟨_, _, (az_e 1 rfl) ss hs⟩) (Nat.le_of_ble_eq_true rfl) rfl rfl h (fun V4 hg4 h => ?_)
      exact h
theorem r_Reader_look {B : Nat} {r : Nat} {d : Nat} {V : ax_V} {Φ : Int → ax_V → Prop} {Θ : ax_V → Prop} (hg : ax_g V) (h : ((V 600 1 ≤ V 600 6 → Φ 0 V) ∧ (V 600 6 < V 600 1 → (0 ≤ V 600 6 ∧ V 600 6 < 700) ∧ (0 ≤ V 1 (V 600 6) ∧ V 1 (V 600 6) < 65536) ∧ Φ (V 1 (V 600 6)) V))) : ax_I (az_W B (az_ER B r)) (d + 1) q_Reader_look [.ref r] V Φ Θ := by
  refine ax_T.of (M := m_Reader_look) rfl (Nat.le_of_ble_eq_true rfl) ?_
  refine ax_mv 0 0 [some (.ref r)] [] rfl ?_
  refine ax_mv 1 1 [some (.ref r)] [.ref r] rfl ?_
  refine ax_gI (kI := 6) (pc' := 4) ⟨_, rfl⟩ fl_10_49 (az_e 1 rfl) rfl rfl rfl ?_
  refine ax_mv 1 5 [some (.ref r)] [.ref r, ax_i (V 600 6)] rfl ?_
  refine ax_gI (kI := 1) (pc' := 8) ⟨_, rfl⟩ fl_10_22 (az_e 1 rfl) rfl rfl rfl ?_
  refine ax_if2 (p1 := 23) (p2 := 11) ⟨_, rfl⟩ (by decide) rfl (hg _ _) (hg _ _) (fun hc => ?_) (fun hc => ?_)
  · have h := h.1 hc
    refine ax_mv 1 24 [some (.ref r)] [ax_i 0] rfl ?_
    exact ax_iret ⟨_, rfl⟩ rfl (ax_ncv (by decide)) (by decide) hg h
  · have h := h.2 (Int.not_le.mp hc)
    refine ax_mv 1 12 [some (.ref r)] [.ref r] rfl ?_
    refine ax_gR (v := .ref 1) (pc' := 15) ⟨_, rfl⟩ fl_10_18 (az_e 1 rfl) rfl rfl ?_
    refine ax_mv 1 16 [some (.ref r)] [.ref r, .ref 1] rfl ?_
    refine ax_gI (kI := 6) (pc' := 19) ⟨_, rfl⟩ fl_10_49 (az_e 1 rfl) rfl rfl rfl ?_
    obtain ⟨o1, h⟩ := h
    refine ax_cld (n := 700) (pc' := 20) ⟨_, rfl⟩ (az_e 0 rfl) (by decide) o1 rfl ?_
    refine ax_mv 1 24 [some (.ref r)] [ax_i (V 1 (V 600 6))] rfl ?_
    obtain ⟨o2, h⟩ := h
    exact ax_iret ⟨_, rfl⟩ rfl (ax_ncv o2) (hg _ _) hg h
theorem r_Reader_isName {B : Nat} {r : Nat} {d : Nat} {V : ax_V} {Φ : Int → ax_V → Prop} {Θ : ax_V → Prop} {x0 : Int} (hg : ax_g V) (hx0 : ax_rg x0) (h : ((x0 < 65 → Φ 0 V) ∧ (65 ≤ x0 → ((72 < x0 → Φ 0 V) ∧ (x0 ≤ 72 → Φ 1 V))))) : ax_I (az_W B (az_ER B r)) (d + 1) q_Reader_isName [ax_i x0] V Φ Θ := by
  refine ax_T.of (M := m_Reader_isName) rfl (Nat.le_of_ble_eq_true rfl) ?_
  refine ax_mv 0 0 [some (ax_i x0)] [] rfl ?_
  refine ax_mv 1 1 [some (ax_i x0)] [ax_i x0] rfl ?_
  refine ax_bip (pc' := 3) ⟨_, rfl⟩ (by decide) rfl ?_
  refine ax_if2 (p1 := 16) (p2 := 6) ⟨_, rfl⟩ (by decide) rfl hx0 (by decide) (fun hc => ?_) (fun hc => ?_)
  · have h := h.1 hc
    refine ax_mv 1 17 [some (ax_i x0)] [ax_i 0] rfl ?_
    exact ax_iret ⟨_, rfl⟩ rfl (ax_nbv (by decide)) (by decide) hg h
  · have h := h.2 (Int.not_lt.mp hc)
    refine ax_mv 1 7 [some (ax_i x0)] [ax_i x0] rfl ?_
    refine ax_bip (pc' := 9) ⟨_, rfl⟩ (by decide) rfl ?_
    refine ax_if2 (p1 := 16) (p2 := 12) ⟨_, rfl⟩ (by decide) rfl hx0 (by decide) (fun hc => ?_) (fun hc => ?_)
    · have h := h.1 hc
      refine ax_mv 1 17 [some (ax_i x0)] [ax_i 0] rfl ?_
      exact ax_iret ⟨_, rfl⟩ rfl (ax_nbv (by decide)) (by decide) hg h
    · have h := h.2 (Int.not_lt.mp hc)
      refine ax_mv 2 17 [some (ax_i x0)] [ax_i 1] rfl ?_
      exact ax_iret ⟨_, rfl⟩ rfl (ax_nbv (by decide)) (by decide) hg h
theorem r_Reader_refuse {B : Nat} {r : Nat} {d : Nat} {V : ax_V} {Φ : ax_V → Prop} {Θ : ax_V → Prop} (hg : ax_g V) (h : Θ V) : ax_N (az_W B (az_ER B r)) (d + 1) q_Reader_refuse [.ref r] V Φ Θ := by
  refine ax_T.of (M := m_Reader_refuse) rfl (Nat.le_of_ble_eq_true rfl) ?_
  refine ax_mv 0 0 [some (.ref r)] [] rfl ?_
  exact ax_thr ⟨_, rfl⟩ rfl rfl rfl rfl (Nat.le_of_ble_eq_true rfl) hg h
theorem r_Reader_expect {B : Nat} {r : Nat} {d : Nat} {V : ax_V} {Φ : ax_V → Prop} {Θ : ax_V → Prop} {x1 : Int} (hg : ax_g V) (hx1 : ax_rg x1) (h : ax_I (az_W B (az_ER B r)) d q_Reader_look [.ref r] V (fun r1 V1 => ((r1 = x1 → ax_rg ((V1 600 6) + 1) ∧ (∀ V2, V2 = ax_u V1 600 6 ((V1 600 6) + 1) → Φ V2)) ∧ (¬ r1 = x1 → ax_N (az_W B (az_ER B r)) d q_Reader_refuse [.ref r] V1 (fun V3 => ax_rg ((V3 600 6) + 1) ∧ (∀ V4, V4 = ax_u V3 600 6 ((V3 600 6) + 1) → Φ V4)) Θ))) Θ) : ax_N (az_W B (az_ER B r)) (d + 1) q_Reader_expect [.ref r, ax_i x1] V Φ Θ := by
  refine ax_T.of (M := m_Reader_expect) rfl (Nat.le_of_ble_eq_true rfl) ?_
  refine ax_mv 0 0 [some (.ref r), some (ax_i x1)] [] rfl ?_
  refine ax_mv 1 1 [some (.ref r), some (ax_i x1)] [.ref r] rfl ?_
  refine ax_callI (pc' := 4) ⟨_, rfl⟩ ml_10_56 (rest := []) rfl (fun ss hs => ⟨_, _, (az_e 1 rfl) ss hs⟩) (Nat.le_of_ble_eq_true rfl) rfl rfl h (fun r1 V1 hg1 hr1 h => ?_)
  refine ax_mv 1 5 [some (.ref r), some (ax_i x1)] [ax_i x1, ax_i r1] rfl ?_
  refine ax_if2 (p1 := 12) (p2 := 8) ⟨_, rfl⟩ (by decide) rfl hr1 hx1 (fun hc => ?_) (fun hc => ?_)
  · have h := h.1 hc
    refine ax_mv 2 14 [some (.ref r), some (ax_i x1)] [.ref r, .ref r] rfl ?_
    refine ax_gI (kI := 6) (pc' := 17) ⟨_, rfl⟩ fl_10_49 (az_e 1 rfl) rfl rfl rfl ?_
    refine ax_mv 1 18 [some (.ref r), some (ax_i x1)] [ax_i 1, ax_i (V1 600 6), .ref r] rfl ?_
    refine ax_add (pc' := 19) ⟨_, rfl⟩ rfl ?_
    obtain ⟨o1, h⟩ := h
    obtain ⟨V2, eV2⟩ : ∃ W9 : ax_V, W9 = ax_u V1 600 6 ((V1 600 6) + 1) := ⟨_, rfl⟩
    have h := h V2 eV2
    have hg2 : ax_g V2 := eV2 ▸ ax_u_g hg1 o1
    refine ax_pI (kI := 6) (pc' := 22) ⟨_, rfl⟩ fl_10_49 az_ok (az_e 1 rfl) rfl rfl rfl rfl eV2 rfl ?_
    exact ax_nret ⟨_, rfl⟩ rfl hg2 h
  · have h := h.2 hc
    refine ax_mv 1 9 [some (.ref r), some (ax_i x1)] [.ref r] rfl ?_
    refine ax_callN (pc' := 12) ⟨_, rfl⟩ ml_10_84 (rest := []) rfl (fun ss hs => ⟨_, _, (az_e 1 rfl) ss hs⟩) (Nat.le_of_ble_eq_true rfl) rfl rfl h (fun V3 hg3 h => ?_)
    refine ax_mv 2 14 [some (.ref r), some (ax_i x1)] [.ref r, .ref r] rfl ?_
    refine ax_gI (kI := 6) (pc' := 17) ⟨_, rfl⟩ fl_10_49 (az_e 1 rfl) rfl rfl rfl ?_
    refine ax_mv 1 18 [some (.ref r), some (ax_i x1)] [ax_i 1, ax_i (V3 600 6), .ref r] rfl ?_
    refine ax_add (pc' := 19) ⟨_, rfl⟩ rfl ?_
    obtain ⟨o2, h⟩ := h
    obtain ⟨V4, eV4⟩ : ∃ W9 : ax_V, W9 = ax_u V3 600 6 ((V3 600 6) + 1) := ⟨_, rfl⟩
    have h := h V4 eV4
    have hg4 : ax_g V4 := eV4 ▸ ax_u_g hg3 o2
    refine ax_pI (kI := 6) (pc' := 22) ⟨_, rfl⟩ fl_10_49 az_ok (az_e 1 rfl) rfl rfl rfl rfl eV4 rfl ?_
    exact ax_nret ⟨_, rfl⟩ rfl hg4 h
abbrev k_Reader_readFlows_2 (B : Nat) (r : Nat) (d : Nat) (x1 : Int) (x2 : Int) (V : ax_V) (Φ : ax_V → Prop) (Θ : ax_V → Prop) : Prop := ax_R (az_W B (az_ER B r)) ax_t d m_Reader_readFlows 2 [some (.ref r), some (ax_i x1), some (ax_i x2)] [] V (ax_Nr Φ) Θ
theorem r_Reader_readFlows_2 {B : Nat} {r : Nat} {d : Nat} {V : ax_V} {Φ : ax_V → Prop} {Θ : ax_V → Prop} {x1 : Int} {x2 : Int} (hg : ax_g V) (hx1 : ax_rg x1) (hx2 : ax_rg x2) (h : ((700 ≤ x2 → Φ V) ∧ (x2 < 700 → ax_N (az_W B (az_ER B r)) d q_Reader_readFlow [.ref r, ax_i x1] V (fun V1 => ax_I (az_W B (az_ER B r)) d q_Reader_look [.ref r] V1 (fun r2 V2 => ((r2 = 44 → ax_rg ((V2 600 6) + 1) ∧ (∀ V3, V3 = ax_u V2 600 6 ((V2 600 6) + 1) → k_Reader_readFlows_2 B r d x1 (x2 + 1) V3 Φ Θ)) ∧ (¬ r2 = 44 → Φ V2))) Θ) Θ))) : k_Reader_readFlows_2 B r d x1 x2 V Φ Θ := by
  refine ax_mv 1 3 [some (.ref r), some (ax_i x1), some (ax_i x2)] [ax_i x2] rfl ?_
  refine ax_sip (pc' := 6) ⟨_, rfl⟩ (by decide) rfl ?_
  refine ax_if2 (p1 := 42) (p2 := 9) ⟨_, rfl⟩ (by decide) rfl hx2 (by decide) (fun hc => ?_) (fun hc => ?_)
  · have h := h.1 hc
    exact ax_nret ⟨_, rfl⟩ rfl hg h
  · have h := h.2 (Int.not_le.mp hc)
    refine ax_mv 2 11 [some (.ref r), some (ax_i x1), some (ax_i x2)] [ax_i x1, .ref r] rfl ?_
    refine ax_callN (pc' := 14) ⟨_, rfl⟩ ml_10_110 (rest := []) rfl (fun ss hs => ⟨_, _, (az_e 1 rfl) ss hs⟩) (Nat.le_of_ble_eq_true rfl) rfl rfl h (fun V1 hg1 h => ?_)
    refine ax_mv 1 15 [some (.ref r), some (ax_i x1), some (ax_i x2)] [.ref r] rfl ?_
    refine ax_callI (pc' := 18) ⟨_, rfl⟩ ml_10_56 (rest := []) rfl (fun ss hs => ⟨_, _, (az_e 1 rfl) ss hs⟩) (Nat.le_of_ble_eq_true rfl) rfl rfl h (fun r2 V2 hg2 hr2 h => ?_)
    refine ax_bip (pc' := 20) ⟨_, rfl⟩ (by decide) rfl ?_
    refine ax_if2 (p1 := 26) (p2 := 23) ⟨_, rfl⟩ (by decide) rfl hr2 (by decide) (fun hc => ?_) (fun hc => ?_)
    · have h := h.1 hc
      refine ax_mv 2 28 [some (.ref r), some (ax_i x1), some (ax_i x2)] [.ref r, .ref r] rfl ?_
      refine ax_gI (kI := 6) (pc' := 31) ⟨_, rfl⟩ fl_10_49 (az_e 1 rfl) rfl rfl rfl ?_
      refine ax_mv 1 32 [some (.ref r), some (ax_i x1), some (ax_i x2)] [ax_i 1, ax_i (V2 600 6), .ref r] rfl ?_
      refine ax_add (pc' := 33) ⟨_, rfl⟩ rfl ?_
      obtain ⟨o1, h⟩ := h
      obtain ⟨V3, eV3⟩ : ∃ W9 : ax_V, W9 = ax_u V2 600 6 ((V2 600 6) + 1) := ⟨_, rfl⟩
      have h := h V3 eV3
      have hg3 : ax_g V3 := eV3 ▸ ax_u_g hg2 o1
      refine ax_pI (kI := 6) (pc' := 36) ⟨_, rfl⟩ fl_10_49 az_ok (az_e 1 rfl) rfl rfl rfl rfl eV3 rfl ?_
      refine ax_inc (x := x2) (pc' := 39) (L' := [some (.ref r), some (ax_i x1), some (ax_i (x2 + 1))]) ⟨_, rfl⟩ rfl rfl rfl rfl ?_
      refine ax_mv 1 2 [some (.ref r), some (ax_i x1), some (ax_i (x2 + 1))] [] rfl ?_
      exact h
    · have h := h.2 hc
      refine ax_mv 1 42 [some (.ref r), some (ax_i x1), some (ax_i x2)] [] rfl ?_
      exact ax_nret ⟨_, rfl⟩ rfl hg2 h
theorem r_Reader_readFlows {B : Nat} {r : Nat} {d : Nat} {V : ax_V} {Φ : ax_V → Prop} {Θ : ax_V → Prop} {x1 : Int} (hg : ax_g V) (hx1 : ax_rg x1) (h : k_Reader_readFlows_2 B r d x1 0 V Φ Θ) : ax_N (az_W B (az_ER B r)) (d + 1) q_Reader_readFlows [.ref r, ax_i x1] V Φ Θ := by
  refine ax_T.of (M := m_Reader_readFlows) rfl (Nat.le_of_ble_eq_true rfl) ?_
  refine ax_mv 0 0 [some (.ref r), some (ax_i x1), none] [] rfl ?_
  refine ax_mv 1 1 [some (.ref r), some (ax_i x1), none] [ax_i 0] rfl ?_
  refine ax_sti (i := 0) (k := 2) (n := 1) (pc' := 2) (L' := [some (.ref r), some (ax_i x1), some (ax_i 0)]) ⟨_, rfl⟩ rfl rfl rfl (Nat.le_of_ble_eq_true rfl) rfl rfl ?_
  exact h
abbrev k_Reader_readFlow_69 (B : Nat) (r : Nat) (d : Nat) (x1 : Int) (x3 : Int) (x4 : Int) (x5 : Int) (y6 : Option Value) (y7 : Option Value) (s0 : Int) (V : ax_V) (Φ : ax_V → Prop) (Θ : ax_V → Prop) : Prop := ax_R (az_W B (az_ER B r)) ax_t d m_Reader_readFlow 69 [some (.ref r), some (ax_i x1), some (.ref (B + 32)), some (ax_i x3), some (ax_i x4), some (ax_i x5), y6, y7] [ax_i s0] V (ax_Nr Φ) Θ
abbrev k_Reader_readFlow_125 (B : Nat) (r : Nat) (d : Nat) (x1 : Int) (y3 : Option Value) (x4 : Int) (y5 : Option Value) (x6 : Int) (y7 : Option Value) (V : ax_V) (Φ : ax_V → Prop) (Θ : ax_V → Prop) : Prop := ax_R (az_W B (az_ER B r)) ax_t d m_Reader_readFlow 125 [some (.ref r), some (ax_i x1), some (.ref (B + 32)), y3, some (ax_i x4), y5, some (ax_i x6), y7] [] V (ax_Nr Φ) Θ
abbrev k_Reader_readFlow_174 (B : Nat) (r : Nat) (d : Nat) (x1 : Int) (y3 : Option Value) (x4 : Int) (y5 : Option Value) (x6 : Int) (y7 : Option Value) (V : ax_V) (Φ : ax_V → Prop) (Θ : ax_V → Prop) : Prop := ax_R (az_W B (az_ER B r)) ax_t d m_Reader_readFlow 174 [some (.ref r), some (ax_i x1), some (.ref (B + 32)), y3, some (ax_i x4), y5, some (ax_i x6), y7] [] V (ax_Nr Φ) Θ
set_option maxRecDepth 20000 in
theorem r_Reader_readFlow_69 {B : Nat} {r : Nat} {d : Nat} {V : ax_V} {Φ : ax_V → Prop} {Θ : ax_V → Prop} {x1 : Int} {x3 : Int} {x4 : Int} {x5 : Int} {y6 : Option Value} {y7 : Option Value} {s0 : Int} (hg : ax_g V) (hx1 : ax_rg x1) (hx3 : ax_rg x3) (hx4 : ax_rg x4) (hx5 : ax_rg x5) (hy6 : ax_y y6) (hy7 : ax_y y7) (hs0 : ax_rg s0) (h : ((s0 = 0 → (∀ V1, V1 = ax_u V 600 7 (if x3 < V 600 7 then x3 else V 600 7) → k_Reader_readFlow_125 B r d x1 (some (ax_i x3)) x4 (some (ax_i x5)) s0 y7 V1 Φ Θ)) ∧ (¬ s0 = 0 → ((x5 = 98 → ax_N (az_W B (az_ER B r)) d q_Letters_tell [.ref (B + 32), ax_i x4, ax_i x3, ax_i x1, ax_i 1] V (fun V4 => ax_N (az_W B (az_ER B r)) d q_Program_tellFlow [.ref B, ax_i (V4 600 8), ax_i x1, ax_i x4] V4 (fun V5 => k_Reader_readFlow_125 B r d x1 (some (ax_i x3)) x4 (some (ax_i x5)) s0 y7 V5 Φ Θ) Θ) Θ) ∧ (¬ x5 = 98 → ax_N (az_W B (az_ER B r)) d q_Letters_tell [.ref (B + 32), ax_i x4, ax_i x3, ax_i x1, ax_i 0] V (fun V2 => ax_N (az_W B (az_ER B r)) d q_Program_tellFlow [.ref B, ax_i (V2 600 8), ax_i x1, ax_i x4] V2 (fun V3 => k_Reader_readFlow_125 B r d x1 (some (ax_i x3)) x4 (some (ax_i x5)) s0 y7 V3 Φ Θ) Θ) Θ))))) : k_Reader_readFlow_69 B r d x1 x3 x4 x5 y6 y7 s0 V Φ Θ := by
  refine ax_sti (i := 0) (k := 6) (n := 2) (pc' := 71) (L' := [some (.ref r), some (ax_i x1), some (.ref (B + 32)), some (ax_i x3), some (ax_i x4), some (ax_i x5), some (ax_i s0), y7]) ⟨_, rfl⟩ rfl rfl rfl (Nat.le_of_ble_eq_true rfl) rfl rfl ?_
  refine ax_mv 1 73 [some (.ref r), some (ax_i x1), some (.ref (B + 32)), some (ax_i x3), some (ax_i x4), some (ax_i x5), some (ax_i s0), y7] [ax_i s0] rfl ?_
  refine ax_if (p1 := 113) (p2 := 76) ⟨_, rfl⟩ (by decide) rfl hs0 (fun hc => ?_) (fun hc => ?_)
  · have h := h.1 hc
    refine ax_mv 2 115 [some (.ref r), some (ax_i x1), some (.ref (B + 32)), some (ax_i x3), some (ax_i x4), some (ax_i x5), some (ax_i s0), y7] [.ref r, .ref r] rfl ?_
    refine ax_gI (kI := 7) (pc' := 118) ⟨_, rfl⟩ fl_10_9 (az_e 1 rfl) rfl rfl rfl ?_
    refine ax_mv 1 119 [some (.ref r), some (ax_i x1), some (.ref (B + 32)), some (ax_i x3), some (ax_i x4), some (ax_i x5), some (ax_i s0), y7] [ax_i x3, ax_i (V 600 7), .ref r] rfl ?_
    refine ax_min (pc' := 122) ⟨_, rfl⟩ ml_10_130 (hg _ _) hx3 (Nat.le_of_ble_eq_true rfl) rfl ?_
    obtain ⟨V1, eV1⟩ : ∃ W9 : ax_V, W9 = ax_u V 600 7 (if x3 < V 600 7 then x3 else V 600 7) := ⟨_, rfl⟩
    have h := h V1 eV1
    have hg1 : ax_g V1 := eV1 ▸ ax_u_g hg (ax_ite_rg hx3 (hg _ _))
    refine ax_pI (kI := 7) (pc' := 125) ⟨_, rfl⟩ fl_10_9 az_ok (az_e 1 rfl) rfl rfl rfl rfl eV1 rfl ?_
    exact h
  · have h := h.2 hc
    refine ax_mv 5 83 [some (.ref r), some (ax_i x1), some (.ref (B + 32)), some (ax_i x3), some (ax_i x4), some (ax_i x5), some (ax_i s0), y7] [ax_i x5, ax_i x1, ax_i x3, ax_i x4, .ref (B + 32)] rfl ?_
    refine ax_bip (pc' := 85) ⟨_, rfl⟩ (by decide) rfl ?_
    refine ax_if2 (p1 := 92) (p2 := 88) ⟨_, rfl⟩ (by decide) rfl hx5 (by decide) (fun hc => ?_) (fun hc => ?_)
    · have h := h.2 hc
      refine ax_mv 1 93 [some (.ref r), some (ax_i x1), some (.ref (B + 32)), some (ax_i x3), some (ax_i x4), some (ax_i x5), some (ax_i s0), y7] [ax_i 0, ax_i x1, ax_i x3, ax_i x4, .ref (B + 32)] rfl ?_
      refine ax_callN (pc' := 96) ⟨_, rfl⟩ ml_10_122 (rest := []) rfl (fun ss hs => ⟨_, _, (az_b 32 rfl) ss hs⟩) (Nat.le_of_ble_eq_true rfl) rfl rfl h (fun V2 hg2 h => ?_)
      refine ax_mv 1 97 [some (.ref r), some (ax_i x1), some (.ref (B + 32)), some (ax_i x3), some (ax_i x4), some (ax_i x5), some (ax_i s0), y7] [.ref r] rfl ?_
      refine ax_gR (v := .ref B) (pc' := 100) ⟨_, rfl⟩ fl_10_25 (az_e 1 rfl) rfl rfl ?_
      refine ax_mv 1 101 [some (.ref r), some (ax_i x1), some (.ref (B + 32)), some (ax_i x3), some (ax_i x4), some (ax_i x5), some (ax_i s0), y7] [.ref r, .ref B] rfl ?_
      refine ax_gI (kI := 8) (pc' := 104) ⟨_, rfl⟩ fl_10_87 (az_e 1 rfl) rfl rfl rfl ?_
      refine ax_mv 2 107 [some (.ref r), some (ax_i x1), some (.ref (B + 32)), some (ax_i x3), some (ax_i x4), some (ax_i x5), some (ax_i s0), y7] [ax_i x4, ax_i x1, ax_i (V2 600 8), .ref B] rfl ?_
      refine ax_callN (pc' := 110) ⟨_, rfl⟩ ml_10_126 (rest := []) rfl (fun ss hs => ⟨_, _, (az_b 0 rfl) ss hs⟩) (Nat.le_of_ble_eq_true rfl) rfl rfl h (fun V3 hg3 h => ?_)
      refine ax_mv 1 125 [some (.ref r), some (ax_i x1), some (.ref (B + 32)), some (ax_i x3), some (ax_i x4), some (ax_i x5), some (ax_i s0), y7] [] rfl ?_
      exact h
    · have h := h.1 (Classical.not_not.mp hc)
      refine ax_mv 2 93 [some (.ref r), some (ax_i x1), some (.ref (B + 32)), some (ax_i x3), some (ax_i x4), some (ax_i x5), some (ax_i s0), y7] [ax_i 1, ax_i x1, ax_i x3, ax_i x4, .ref (B + 32)] rfl ?_
      refine ax_callN (pc' := 96) ⟨_, rfl⟩ ml_10_122 (rest := []) rfl (fun ss hs => ⟨_, _, (az_b 32 rfl) ss hs⟩) (Nat.le_of_ble_eq_true rfl) rfl rfl h (fun V4 hg4 h => ?_)
      refine ax_mv 1 97 [some (.ref r), some (ax_i x1), some (.ref (B + 32)), some (ax_i x3), some (ax_i x4), some (ax_i x5), some (ax_i s0), y7] [.ref r] rfl ?_
      refine ax_gR (v := .ref B) (pc' := 100) ⟨_, rfl⟩ fl_10_25 (az_e 1 rfl) rfl rfl ?_
      refine ax_mv 1 101 [some (.ref r), some (ax_i x1), some (.ref (B + 32)), some (ax_i x3), some (ax_i x4), some (ax_i x5), some (ax_i s0), y7] [.ref r, .ref B] rfl ?_
      refine ax_gI (kI := 8) (pc' := 104) ⟨_, rfl⟩ fl_10_87 (az_e 1 rfl) rfl rfl rfl ?_
      refine ax_mv 2 107 [some (.ref r), some (ax_i x1), some (.ref (B + 32)), some (ax_i x3), some (ax_i x4), some (ax_i x5), some (ax_i s0), y7] [ax_i x4, ax_i x1, ax_i (V4 600 8), .ref B] rfl ?_
      refine ax_callN (pc' := 110) ⟨_, rfl⟩ ml_10_126 (rest := []) rfl (fun ss hs => ⟨_, _, (az_b 0 rfl) ss hs⟩) (Nat.le_of_ble_eq_true rfl) rfl rfl h (fun V5 hg5 h => ?_)
      refine ax_mv 1 125 [some (.ref r), some (ax_i x1), some (.ref (B + 32)), some (ax_i x3), some (ax_i x4), some (ax_i x5), some (ax_i s0), y7] [] rfl ?_
      exact h
set_option maxRecDepth 20000 in
theorem r_Reader_readFlow_125 {B : Nat} {r : Nat} {d : Nat} {V : ax_V} {Φ : ax_V → Prop} {Θ : ax_V → Prop} {x1 : Int} {y3 : Option Value} {x4 : Int} {y5 : Option Value} {x6 : Int} {y7 : Option Value} (hg : ax_g V) (hx1 : ax_rg x1) (hy3 : ax_y y3) (hx4 : ax_rg x4) (hy5 : ax_y y5) (hx6 : ax_rg x6) (hy7 : ax_y y7) (h : ((x1 = 3 → ax_I (az_W B (az_ER B r)) d q_Reader_look [.ref r] V (fun r1 V1 => ((r1 = 64 → ax_rg ((V1 600 6) + 1) ∧ (∀ V2, V2 = ax_u V1 600 6 ((V1 600 6) + 1) → ax_I (az_W B (az_ER B r)) d q_Reader_takeClock [.ref r] V2 (fun r3 V3 => ((x6 = 0 → k_Reader_readFlow_174 B r d x1 y3 x4 y5 x6 (some (ax_i r3)) V3 Φ Θ) ∧ (¬ x6 = 0 → ax_N (az_W B (az_ER B r)) d q_Letters_tellClock [.ref (B + 32), ax_i x4, ax_i r3, ax_i ((V3 600 6) - 1)] V3 (fun V4 => k_Reader_readFlow_174 B r d x1 y3 x4 y5 x6 (some (ax_i r3)) V4 Φ Θ) Θ))) Θ)) ∧ (¬ r1 = 64 → k_Reader_readFlow_174 B r d x1 y3 x4 y5 x6 y7 V1 Φ Θ))) Θ) ∧ (¬ x1 = 3 → k_Reader_readFlow_174 B r d x1 y3 x4 y5 x6 y7 V Φ Θ))) : k_Reader_readFlow_125 B r d x1 y3 x4 y5 x6 y7 V Φ Θ := by
  refine ax_mv 2 127 [some (.ref r), some (ax_i x1), some (.ref (B + 32)), y3, some (ax_i x4), y5, some (ax_i x6), y7] [ax_i 3, ax_i x1] rfl ?_
  refine ax_if2 (p1 := 174) (p2 := 130) ⟨_, rfl⟩ (by decide) rfl hx1 (by decide) (fun hc => ?_) (fun hc => ?_)
  · have h := h.2 hc
    exact h
  · have h := h.1 (Classical.not_not.mp hc)
    refine ax_mv 1 131 [some (.ref r), some (ax_i x1), some (.ref (B + 32)), y3, some (ax_i x4), y5, some (ax_i x6), y7] [.ref r] rfl ?_
    refine ax_callI (pc' := 134) ⟨_, rfl⟩ ml_10_56 (rest := []) rfl (fun ss hs => ⟨_, _, (az_e 1 rfl) ss hs⟩) (Nat.le_of_ble_eq_true rfl) rfl rfl h (fun r1 V1 hg1 hr1 h => ?_)
    refine ax_bip (pc' := 136) ⟨_, rfl⟩ (by decide) rfl ?_
    refine ax_if2 (p1 := 174) (p2 := 139) ⟨_, rfl⟩ (by decide) rfl hr1 (by decide) (fun hc => ?_) (fun hc => ?_)
    · have h := h.2 hc
      exact h
    · have h := h.1 (Classical.not_not.mp hc)
      refine ax_mv 2 141 [some (.ref r), some (ax_i x1), some (.ref (B + 32)), y3, some (ax_i x4), y5, some (ax_i x6), y7] [.ref r, .ref r] rfl ?_
      refine ax_gI (kI := 6) (pc' := 144) ⟨_, rfl⟩ fl_10_49 (az_e 1 rfl) rfl rfl rfl ?_
      refine ax_mv 1 145 [some (.ref r), some (ax_i x1), some (.ref (B + 32)), y3, some (ax_i x4), y5, some (ax_i x6), y7] [ax_i 1, ax_i (V1 600 6), .ref r] rfl ?_
      refine ax_add (pc' := 146) ⟨_, rfl⟩ rfl ?_
      obtain ⟨o1, h⟩ := h
      obtain ⟨V2, eV2⟩ : ∃ W9 : ax_V, W9 = ax_u V1 600 6 ((V1 600 6) + 1) := ⟨_, rfl⟩
      have h := h V2 eV2
      have hg2 : ax_g V2 := eV2 ▸ ax_u_g hg1 o1
      refine ax_pI (kI := 6) (pc' := 149) ⟨_, rfl⟩ fl_10_49 az_ok (az_e 1 rfl) rfl rfl rfl rfl eV2 rfl ?_
      refine ax_mv 1 150 [some (.ref r), some (ax_i x1), some (.ref (B + 32)), y3, some (ax_i x4), y5, some (ax_i x6), y7] [.ref r] rfl ?_
      refine ax_callI (pc' := 153) ⟨_, rfl⟩ ml_10_136 (rest := []) rfl (fun ss hs => ⟨_, _, (az_e 1 rfl) ss hs⟩) (Nat.le_of_ble_eq_true rfl) rfl rfl h (fun r3 V3 hg3 hr3 h => ?_)
      refine ax_sti (i := 0) (k := 7) (n := 2) (pc' := 155) (L' := [some (.ref r), some (ax_i x1), some (.ref (B + 32)), y3, some (ax_i x4), y5, some (ax_i x6), some (ax_i r3)]) ⟨_, rfl⟩ rfl rfl rfl (Nat.le_of_ble_eq_true rfl) rfl rfl ?_
      refine ax_mv 1 157 [some (.ref r), some (ax_i x1), some (.ref (B + 32)), y3, some (ax_i x4), y5, some (ax_i x6), some (ax_i r3)] [ax_i x6] rfl ?_
      refine ax_if (p1 := 174) (p2 := 160) ⟨_, rfl⟩ (by decide) rfl hx6 (fun hc => ?_) (fun hc => ?_)
      · have h := h.1 hc
        exact h
      · have h := h.2 hc
        refine ax_mv 4 166 [some (.ref r), some (ax_i x1), some (.ref (B + 32)), y3, some (ax_i x4), y5, some (ax_i x6), some (ax_i r3)] [.ref r, ax_i r3, ax_i x4, .ref (B + 32)] rfl ?_
        refine ax_gI (kI := 6) (pc' := 169) ⟨_, rfl⟩ fl_10_49 (az_e 1 rfl) rfl rfl rfl ?_
        refine ax_mv 1 170 [some (.ref r), some (ax_i x1), some (.ref (B + 32)), y3, some (ax_i x4), y5, some (ax_i x6), some (ax_i r3)] [ax_i 1, ax_i (V3 600 6), ax_i r3, ax_i x4, .ref (B + 32)] rfl ?_
        refine ax_sub (pc' := 171) ⟨_, rfl⟩ rfl ?_
        refine ax_callN (pc' := 174) ⟨_, rfl⟩ ml_10_139 (rest := []) rfl (fun ss hs => ⟨_, _, (az_b 32 rfl) ss hs⟩) (Nat.le_of_ble_eq_true rfl) rfl rfl h (fun V4 hg4 h => ?_)
        exact h
set_option maxRecDepth 20000 in
theorem r_Reader_readFlow_174 {B : Nat} {r : Nat} {d : Nat} {V : ax_V} {Φ : ax_V → Prop} {Θ : ax_V → Prop} {x1 : Int} {y3 : Option Value} {x4 : Int} {y5 : Option Value} {x6 : Int} {y7 : Option Value} (hg : ax_g V) (hx1 : ax_rg x1) (hy3 : ax_y y3) (hx4 : ax_rg x4) (hy5 : ax_y y5) (hx6 : ax_rg x6) (hy7 : ax_y y7) (h : ((x1 = 1 → Φ V) ∧ (¬ x1 = 1 → ax_I (az_W B (az_ER B r)) d q_Reader_look [.ref r] V (fun r1 V1 => ((r1 = 61 → ax_rg ((V1 600 6) + 1) ∧ (∀ V2, V2 = ax_u V1 600 6 ((V1 600 6) + 1) → ax_I (az_W B (az_ER B r)) d q_Reader_takeNumber [.ref r] V2 (fun r3 V3 => ((x6 = 0 → Φ V3) ∧ (¬ x6 = 0 → ax_N (az_W B (az_ER B r)) d q_Letters_tellLast [.ref (B + 32), ax_i x4, ax_i r3] V3 (fun V4 => Φ V4) Θ))) Θ)) ∧ (¬ r1 = 61 → Φ V1))) Θ))) : k_Reader_readFlow_174 B r d x1 y3 x4 y5 x6 y7 V Φ Θ := by
  refine ax_mv 2 176 [some (.ref r), some (ax_i x1), some (.ref (B + 32)), y3, some (ax_i x4), y5, some (ax_i x6), y7] [ax_i 1, ax_i x1] rfl ?_
  refine ax_if2 (p1 := 217) (p2 := 179) ⟨_, rfl⟩ (by decide) rfl hx1 (by decide) (fun hc => ?_) (fun hc => ?_)
  · have h := h.1 hc
    exact ax_nret ⟨_, rfl⟩ rfl hg h
  · have h := h.2 hc
    refine ax_mv 1 180 [some (.ref r), some (ax_i x1), some (.ref (B + 32)), y3, some (ax_i x4), y5, some (ax_i x6), y7] [.ref r] rfl ?_
    refine ax_callI (pc' := 183) ⟨_, rfl⟩ ml_10_56 (rest := []) rfl (fun ss hs => ⟨_, _, (az_e 1 rfl) ss hs⟩) (Nat.le_of_ble_eq_true rfl) rfl rfl h (fun r1 V1 hg1 hr1 h => ?_)
    refine ax_bip (pc' := 185) ⟨_, rfl⟩ (by decide) rfl ?_
    refine ax_if2 (p1 := 217) (p2 := 188) ⟨_, rfl⟩ (by decide) rfl hr1 (by decide) (fun hc => ?_) (fun hc => ?_)
    · have h := h.2 hc
      exact ax_nret ⟨_, rfl⟩ rfl hg1 h
    · have h := h.1 (Classical.not_not.mp hc)
      refine ax_mv 2 190 [some (.ref r), some (ax_i x1), some (.ref (B + 32)), y3, some (ax_i x4), y5, some (ax_i x6), y7] [.ref r, .ref r] rfl ?_
      refine ax_gI (kI := 6) (pc' := 193) ⟨_, rfl⟩ fl_10_49 (az_e 1 rfl) rfl rfl rfl ?_
      refine ax_mv 1 194 [some (.ref r), some (ax_i x1), some (.ref (B + 32)), y3, some (ax_i x4), y5, some (ax_i x6), y7] [ax_i 1, ax_i (V1 600 6), .ref r] rfl ?_
      refine ax_add (pc' := 195) ⟨_, rfl⟩ rfl ?_
      obtain ⟨o2, h⟩ := h
      obtain ⟨V2, eV2⟩ : ∃ W9 : ax_V, W9 = ax_u V1 600 6 ((V1 600 6) + 1) := ⟨_, rfl⟩
      have h := h V2 eV2
      have hg2 : ax_g V2 := eV2 ▸ ax_u_g hg1 o2
      refine ax_pI (kI := 6) (pc' := 198) ⟨_, rfl⟩ fl_10_49 az_ok (az_e 1 rfl) rfl rfl rfl rfl eV2 rfl ?_
      refine ax_mv 1 199 [some (.ref r), some (ax_i x1), some (.ref (B + 32)), y3, some (ax_i x4), y5, some (ax_i x6), y7] [.ref r] rfl ?_
      refine ax_callI (pc' := 202) ⟨_, rfl⟩ ml_10_142 (rest := []) rfl (fun ss hs => ⟨_, _, (az_e 1 rfl) ss hs⟩) (Nat.le_of_ble_eq_true rfl) rfl rfl h (fun r3 V3 hg3 hr3 h => ?_)
      refine ax_sti (i := 0) (k := 7) (n := 2) (pc' := 204) (L' := [some (.ref r), some (ax_i x1), some (.ref (B + 32)), y3, some (ax_i x4), y5, some (ax_i x6), some (ax_i r3)]) ⟨_, rfl⟩ rfl rfl rfl (Nat.le_of_ble_eq_true rfl) rfl rfl ?_
      refine ax_mv 1 206 [some (.ref r), some (ax_i x1), some (.ref (B + 32)), y3, some (ax_i x4), y5, some (ax_i x6), some (ax_i r3)] [ax_i x6] rfl ?_
      refine ax_if (p1 := 217) (p2 := 209) ⟨_, rfl⟩ (by decide) rfl hx6 (fun hc => ?_) (fun hc => ?_)
      · have h := h.1 hc
        exact ax_nret ⟨_, rfl⟩ rfl hg3 h
      · have h := h.2 hc
        refine ax_mv 3 214 [some (.ref r), some (ax_i x1), some (.ref (B + 32)), y3, some (ax_i x4), y5, some (ax_i x6), some (ax_i r3)] [ax_i r3, ax_i x4, .ref (B + 32)] rfl ?_
        refine ax_callN (pc' := 217) ⟨_, rfl⟩ ml_10_145 (rest := []) rfl (fun ss hs => ⟨_, _, (az_b 32 rfl) ss hs⟩) (Nat.le_of_ble_eq_true rfl) rfl rfl h (fun V4 hg4 h => ?_)
        exact ax_nret ⟨_, rfl⟩ rfl hg4 h
set_option maxRecDepth 20000 in
theorem r_Reader_readFlow {B : Nat} {r : Nat} {d : Nat} {V : ax_V} {Φ : ax_V → Prop} {Θ : ax_V → Prop} {x1 : Int} (hg : ax_g V) (hx1 : ax_rg x1) (h : ax_I (az_W B (az_ER B r)) d q_Reader_takeLetter [.ref r] V (fun r1 V1 => ax_I (az_W B (az_ER B r)) d q_Reader_look [.ref r] V1 (fun r2 V2 => ((r2 = 105 → ax_rg ((V2 600 6) + 1) ∧ (∀ V3, V3 = ax_u V2 600 6 ((V2 600 6) + 1) → (0 ≤ r1 ∧ r1 < 208) ∧ ((V3 533 r1 = -1 → k_Reader_readFlow_69 B r d x1 (V 600 6) r1 r2 none none 1 V3 Φ Θ) ∧ (¬ V3 533 r1 = -1 → k_Reader_readFlow_69 B r d x1 (V 600 6) r1 r2 none none 0 V3 Φ Θ)))) ∧ (¬ r2 = 105 → ((r2 = 98 → ax_rg ((V2 600 6) + 1) ∧ (∀ V4, V4 = ax_u V2 600 6 ((V2 600 6) + 1) → (0 ≤ r1 ∧ r1 < 208) ∧ ((V4 533 r1 = -1 → k_Reader_readFlow_69 B r d x1 (V 600 6) r1 r2 none none 1 V4 Φ Θ) ∧ (¬ V4 533 r1 = -1 → k_Reader_readFlow_69 B r d x1 (V 600 6) r1 r2 none none 0 V4 Φ Θ)))) ∧ (¬ r2 = 98 → ax_N (az_W B (az_ER B r)) d q_Reader_refuse [.ref r] V2 (fun V5 => ax_rg ((V5 600 6) + 1) ∧ (∀ V6, V6 = ax_u V5 600 6 ((V5 600 6) + 1) → (0 ≤ r1 ∧ r1 < 208) ∧ ((V6 533 r1 = -1 → k_Reader_readFlow_69 B r d x1 (V 600 6) r1 r2 none none 1 V6 Φ Θ) ∧ (¬ V6 533 r1 = -1 → k_Reader_readFlow_69 B r d x1 (V 600 6) r1 r2 none none 0 V6 Φ Θ)))) Θ))))) Θ) Θ) : ax_N (az_W B (az_ER B r)) (d + 1) q_Reader_readFlow [.ref r, ax_i x1] V Φ Θ := by
  refine ax_T.of (M := m_Reader_readFlow) rfl (Nat.le_of_ble_eq_true rfl) ?_
  refine ax_mv 0 0 [some (.ref r), some (ax_i x1), none, none, none, none, none, none] [] rfl ?_
  refine ax_mv 1 1 [some (.ref r), some (ax_i x1), none, none, none, none, none, none] [.ref r] rfl ?_
  refine ax_gR (v := .ref B) (pc' := 4) ⟨_, rfl⟩ fl_10_25 (az_e 1 rfl) rfl rfl ?_
  refine ax_gR (v := .ref (B + 32)) (pc' := 7) ⟨_, rfl⟩ fl_10_113 (az_b 0 rfl) rfl rfl ?_
  refine ax_sta (k := 2) (n := 1) (pc' := 8) (L' := [some (.ref r), some (ax_i x1), some (.ref (B + 32)), none, none, none, none, none]) ⟨_, rfl⟩ rfl rfl rfl (Nat.le_of_ble_eq_true rfl) rfl rfl ?_
  refine ax_mv 1 9 [some (.ref r), some (ax_i x1), some (.ref (B + 32)), none, none, none, none, none] [.ref r] rfl ?_
  refine ax_gI (kI := 6) (pc' := 12) ⟨_, rfl⟩ fl_10_49 (az_e 1 rfl) rfl rfl rfl ?_
  refine ax_sti (i := 0) (k := 3) (n := 1) (pc' := 13) (L' := [some (.ref r), some (ax_i x1), some (.ref (B + 32)), some (ax_i (V 600 6)), none, none, none, none]) ⟨_, rfl⟩ rfl rfl rfl (Nat.le_of_ble_eq_true rfl) rfl rfl ?_
  refine ax_mv 1 14 [some (.ref r), some (ax_i x1), some (.ref (B + 32)), some (ax_i (V 600 6)), none, none, none, none] [.ref r] rfl ?_
  refine ax_callI (pc' := 17) ⟨_, rfl⟩ ml_10_90 (rest := []) rfl (fun ss hs => ⟨_, _, (az_e 1 rfl) ss hs⟩) (Nat.le_of_ble_eq_true rfl) rfl rfl h (fun r1 V1 hg1 hr1 h => ?_)
  refine ax_sti (i := 0) (k := 4) (n := 2) (pc' := 19) (L' := [some (.ref r), some (ax_i x1), some (.ref (B + 32)), some (ax_i (V 600 6)), some (ax_i r1), none, none, none]) ⟨_, rfl⟩ rfl rfl rfl (Nat.le_of_ble_eq_true rfl) rfl rfl ?_
  refine ax_mv 1 20 [some (.ref r), some (ax_i x1), some (.ref (B + 32)), some (ax_i (V 600 6)), some (ax_i r1), none, none, none] [.ref r] rfl ?_
  refine ax_callI (pc' := 23) ⟨_, rfl⟩ ml_10_56 (rest := []) rfl (fun ss hs => ⟨_, _, (az_e 1 rfl) ss hs⟩) (Nat.le_of_ble_eq_true rfl) rfl rfl h (fun r2 V2 hg2 hr2 h => ?_)
  refine ax_sti (i := 0) (k := 5) (n := 2) (pc' := 25) (L' := [some (.ref r), some (ax_i x1), some (.ref (B + 32)), some (ax_i (V 600 6)), some (ax_i r1), some (ax_i r2), none, none]) ⟨_, rfl⟩ rfl rfl rfl (Nat.le_of_ble_eq_true rfl) rfl rfl ?_
  refine ax_mv 1 27 [some (.ref r), some (ax_i x1), some (.ref (B + 32)), some (ax_i (V 600 6)), some (ax_i r1), some (ax_i r2), none, none] [ax_i r2] rfl ?_
  refine ax_bip (pc' := 29) ⟨_, rfl⟩ (by decide) rfl ?_
  refine ax_if2 (p1 := 43) (p2 := 32) ⟨_, rfl⟩ (by decide) rfl hr2 (by decide) (fun hc => ?_) (fun hc => ?_)
  · have h := h.1 hc
    refine ax_mv 2 45 [some (.ref r), some (ax_i x1), some (.ref (B + 32)), some (ax_i (V 600 6)), some (ax_i r1), some (ax_i r2), none, none] [.ref r, .ref r] rfl ?_
    refine ax_gI (kI := 6) (pc' := 48) ⟨_, rfl⟩ fl_10_49 (az_e 1 rfl) rfl rfl rfl ?_
    refine ax_mv 1 49 [some (.ref r), some (ax_i x1), some (.ref (B + 32)), some (ax_i (V 600 6)), some (ax_i r1), some (ax_i r2), none, none] [ax_i 1, ax_i (V2 600 6), .ref r] rfl ?_
    refine ax_add (pc' := 50) ⟨_, rfl⟩ rfl ?_
    obtain ⟨o3, h⟩ := h
    obtain ⟨V3, eV3⟩ : ∃ W9 : ax_V, W9 = ax_u V2 600 6 ((V2 600 6) + 1) := ⟨_, rfl⟩
    have h := h V3 eV3
    have hg3 : ax_g V3 := eV3 ▸ ax_u_g hg2 o3
    refine ax_pI (kI := 6) (pc' := 53) ⟨_, rfl⟩ fl_10_49 az_ok (az_e 1 rfl) rfl rfl rfl rfl eV3 rfl ?_
    refine ax_mv 1 54 [some (.ref r), some (ax_i x1), some (.ref (B + 32)), some (ax_i (V 600 6)), some (ax_i r1), some (ax_i r2), none, none] [.ref (B + 32)] rfl ?_
    refine ax_gR (v := .ref (B + 33)) (pc' := 57) ⟨_, rfl⟩ fl_10_117 (az_b 32 rfl) rfl rfl ?_
    refine ax_mv 1 59 [some (.ref r), some (ax_i x1), some (.ref (B + 32)), some (ax_i (V 600 6)), some (ax_i r1), some (ax_i r2), none, none] [ax_i r1, .ref (B + 33)] rfl ?_
    obtain ⟨o4, h⟩ := h
    refine ax_ild (n := 208) (pc' := 60) ⟨_, rfl⟩ (az_b 33 rfl) (by decide) o4 rfl ?_
    refine ax_mv 1 61 [some (.ref r), some (ax_i x1), some (.ref (B + 32)), some (ax_i (V 600 6)), some (ax_i r1), some (ax_i r2), none, none] [ax_i (-1), ax_i (V3 533 r1)] rfl ?_
    refine ax_if2 (p1 := 68) (p2 := 64) ⟨_, rfl⟩ (by decide) rfl (hg3 _ _) (by decide) (fun hc => ?_) (fun hc => ?_)
    · have h := h.2 hc
      refine ax_mv 1 69 [some (.ref r), some (ax_i x1), some (.ref (B + 32)), some (ax_i (V 600 6)), some (ax_i r1), some (ax_i r2), none, none] [ax_i 0] rfl ?_
      exact h
    · have h := h.1 (Classical.not_not.mp hc)
      refine ax_mv 2 69 [some (.ref r), some (ax_i x1), some (.ref (B + 32)), some (ax_i (V 600 6)), some (ax_i r1), some (ax_i r2), none, none] [ax_i 1] rfl ?_
      exact h
  · have h := h.2 hc
    refine ax_mv 1 34 [some (.ref r), some (ax_i x1), some (.ref (B + 32)), some (ax_i (V 600 6)), some (ax_i r1), some (ax_i r2), none, none] [ax_i r2] rfl ?_
    refine ax_bip (pc' := 36) ⟨_, rfl⟩ (by decide) rfl ?_
    refine ax_if2 (p1 := 43) (p2 := 39) ⟨_, rfl⟩ (by decide) rfl hr2 (by decide) (fun hc => ?_) (fun hc => ?_)
    · have h := h.1 hc
      refine ax_mv 2 45 [some (.ref r), some (ax_i x1), some (.ref (B + 32)), some (ax_i (V 600 6)), some (ax_i r1), some (ax_i r2), none, none] [.ref r, .ref r] rfl ?_
      refine ax_gI (kI := 6) (pc' := 48) ⟨_, rfl⟩ fl_10_49 (az_e 1 rfl) rfl rfl rfl ?_
      refine ax_mv 1 49 [some (.ref r), some (ax_i x1), some (.ref (B + 32)), some (ax_i (V 600 6)), some (ax_i r1), some (ax_i r2), none, none] [ax_i 1, ax_i (V2 600 6), .ref r] rfl ?_
      refine ax_add (pc' := 50) ⟨_, rfl⟩ rfl ?_
      obtain ⟨o5, h⟩ := h
      obtain ⟨V4, eV4⟩ : ∃ W9 : ax_V, W9 = ax_u V2 600 6 ((V2 600 6) + 1) := ⟨_, rfl⟩
      have h := h V4 eV4
      have hg4 : ax_g V4 := eV4 ▸ ax_u_g hg2 o5
      refine ax_pI (kI := 6) (pc' := 53) ⟨_, rfl⟩ fl_10_49 az_ok (az_e 1 rfl) rfl rfl rfl rfl eV4 rfl ?_
      refine ax_mv 1 54 [some (.ref r), some (ax_i x1), some (.ref (B + 32)), some (ax_i (V 600 6)), some (ax_i r1), some (ax_i r2), none, none] [.ref (B + 32)] rfl ?_
      refine ax_gR (v := .ref (B + 33)) (pc' := 57) ⟨_, rfl⟩ fl_10_117 (az_b 32 rfl) rfl rfl ?_
      refine ax_mv 1 59 [some (.ref r), some (ax_i x1), some (.ref (B + 32)), some (ax_i (V 600 6)), some (ax_i r1), some (ax_i r2), none, none] [ax_i r1, .ref (B + 33)] rfl ?_
      obtain ⟨o6, h⟩ := h
      refine ax_ild (n := 208) (pc' := 60) ⟨_, rfl⟩ (az_b 33 rfl) (by decide) o6 rfl ?_
      refine ax_mv 1 61 [some (.ref r), some (ax_i x1), some (.ref (B + 32)), some (ax_i (V 600 6)), some (ax_i r1), some (ax_i r2), none, none] [ax_i (-1), ax_i (V4 533 r1)] rfl ?_
      refine ax_if2 (p1 := 68) (p2 := 64) ⟨_, rfl⟩ (by decide) rfl (hg4 _ _) (by decide) (fun hc => ?_) (fun hc => ?_)
      · have h := h.2 hc
        refine ax_mv 1 69 [some (.ref r), some (ax_i x1), some (.ref (B + 32)), some (ax_i (V 600 6)), some (ax_i r1), some (ax_i r2), none, none] [ax_i 0] rfl ?_
        exact h
      · have h := h.1 (Classical.not_not.mp hc)
        refine ax_mv 2 69 [some (.ref r), some (ax_i x1), some (.ref (B + 32)), some (ax_i (V 600 6)), some (ax_i r1), some (ax_i r2), none, none] [ax_i 1] rfl ?_
        exact h
    · have h := h.2 hc
      refine ax_mv 1 40 [some (.ref r), some (ax_i x1), some (.ref (B + 32)), some (ax_i (V 600 6)), some (ax_i r1), some (ax_i r2), none, none] [.ref r] rfl ?_
      refine ax_callN (pc' := 43) ⟨_, rfl⟩ ml_10_84 (rest := []) rfl (fun ss hs => ⟨_, _, (az_e 1 rfl) ss hs⟩) (Nat.le_of_ble_eq_true rfl) rfl rfl h (fun V5 hg5 h => ?_)
      refine ax_mv 2 45 [some (.ref r), some (ax_i x1), some (.ref (B + 32)), some (ax_i (V 600 6)), some (ax_i r1), some (ax_i r2), none, none] [.ref r, .ref r] rfl ?_
      refine ax_gI (kI := 6) (pc' := 48) ⟨_, rfl⟩ fl_10_49 (az_e 1 rfl) rfl rfl rfl ?_
      refine ax_mv 1 49 [some (.ref r), some (ax_i x1), some (.ref (B + 32)), some (ax_i (V 600 6)), some (ax_i r1), some (ax_i r2), none, none] [ax_i 1, ax_i (V5 600 6), .ref r] rfl ?_
      refine ax_add (pc' := 50) ⟨_, rfl⟩ rfl ?_
      obtain ⟨o7, h⟩ := h
      obtain ⟨V6, eV6⟩ : ∃ W9 : ax_V, W9 = ax_u V5 600 6 ((V5 600 6) + 1) := ⟨_, rfl⟩
      have h := h V6 eV6
      have hg6 : ax_g V6 := eV6 ▸ ax_u_g hg5 o7
      refine ax_pI (kI := 6) (pc' := 53) ⟨_, rfl⟩ fl_10_49 az_ok (az_e 1 rfl) rfl rfl rfl rfl eV6 rfl ?_
      refine ax_mv 1 54 [some (.ref r), some (ax_i x1), some (.ref (B + 32)), some (ax_i (V 600 6)), some (ax_i r1), some (ax_i r2), none, none] [.ref (B + 32)] rfl ?_
      refine ax_gR (v := .ref (B + 33)) (pc' := 57) ⟨_, rfl⟩ fl_10_117 (az_b 32 rfl) rfl rfl ?_
      refine ax_mv 1 59 [some (.ref r), some (ax_i x1), some (.ref (B + 32)), some (ax_i (V 600 6)), some (ax_i r1), some (ax_i r2), none, none] [ax_i r1, .ref (B + 33)] rfl ?_
      obtain ⟨o8, h⟩ := h
      refine ax_ild (n := 208) (pc' := 60) ⟨_, rfl⟩ (az_b 33 rfl) (by decide) o8 rfl ?_
      refine ax_mv 1 61 [some (.ref r), some (ax_i x1), some (.ref (B + 32)), some (ax_i (V 600 6)), some (ax_i r1), some (ax_i r2), none, none] [ax_i (-1), ax_i (V6 533 r1)] rfl ?_
      refine ax_if2 (p1 := 68) (p2 := 64) ⟨_, rfl⟩ (by decide) rfl (hg6 _ _) (by decide) (fun hc => ?_) (fun hc => ?_)
      · have h := h.2 hc
        refine ax_mv 1 69 [some (.ref r), some (ax_i x1), some (.ref (B + 32)), some (ax_i (V 600 6)), some (ax_i r1), some (ax_i r2), none, none] [ax_i 0] rfl ?_
        exact h
      · have h := h.1 (Classical.not_not.mp hc)
        refine ax_mv 2 69 [some (.ref r), some (ax_i x1), some (.ref (B + 32)), some (ax_i (V 600 6)), some (ax_i r1), some (ax_i r2), none, none] [ax_i 1] rfl ?_
        exact h
theorem r_Reader_takeLetter {B : Nat} {r : Nat} {d : Nat} {V : ax_V} {Φ : Int → ax_V → Prop} {Θ : ax_V → Prop} (hg : ax_g V) (h : ax_I (az_W B (az_ER B r)) d q_Reader_look [.ref r] V (fun r1 V1 => ax_I (az_W B (az_ER B r)) d q_Reader_isLetter [ax_i r1] V1 (fun r2 V2 => ((r2 = 0 → ax_N (az_W B (az_ER B r)) d q_Reader_refuse [.ref r] V2 (fun V4 => ax_rg ((V4 600 6) + 1) ∧ (∀ V5, V5 = ax_u V4 600 6 ((V4 600 6) + 1) → ax_rg (((V5 600 8) * 26) + (r1 - 97)) ∧ Φ (((V5 600 8) * 26) + (r1 - 97)) V5)) Θ) ∧ (¬ r2 = 0 → ax_rg ((V2 600 6) + 1) ∧ (∀ V3, V3 = ax_u V2 600 6 ((V2 600 6) + 1) → ax_rg (((V3 600 8) * 26) + (r1 - 97)) ∧ Φ (((V3 600 8) * 26) + (r1 - 97)) V3)))) (fun _ => False)) Θ) : ax_I (az_W B (az_ER B r)) (d + 1) q_Reader_takeLetter [.ref r] V Φ Θ := by
  refine ax_T.of (M := m_Reader_takeLetter) rfl (Nat.le_of_ble_eq_true rfl) ?_
  refine ax_mv 0 0 [some (.ref r), none] [] rfl ?_
  refine ax_mv 1 1 [some (.ref r), none] [.ref r] rfl ?_
  refine ax_callI (pc' := 4) ⟨_, rfl⟩ ml_10_56 (rest := []) rfl (fun ss hs => ⟨_, _, (az_e 1 rfl) ss hs⟩) (Nat.le_of_ble_eq_true rfl) rfl rfl h (fun r1 V1 hg1 hr1 h => ?_)
  refine ax_sti (i := 0) (k := 1) (n := 1) (pc' := 5) (L' := [some (.ref r), some (ax_i r1)]) ⟨_, rfl⟩ rfl rfl rfl (Nat.le_of_ble_eq_true rfl) rfl rfl ?_
  refine ax_mv 1 6 [some (.ref r), some (ax_i r1)] [ax_i r1] rfl ?_
  refine ax_callS (pc' := 9) ⟨_, rfl⟩ ml_10_60 (Nat.le_of_ble_eq_true rfl) (Nat.le_of_ble_eq_true rfl) rfl h (fun r2 V2 hg2 hr2 h => ?_)
  refine ax_mv 0 9 [some (.ref r), some (ax_i r1)] [ax_i r2] rfl ?_
  refine ax_if (p1 := 16) (p2 := 12) ⟨_, rfl⟩ (by decide) rfl hr2 (fun hc => ?_) (fun hc => ?_)
  · have h := h.2 hc
    refine ax_mv 2 18 [some (.ref r), some (ax_i r1)] [.ref r, .ref r] rfl ?_
    refine ax_gI (kI := 6) (pc' := 21) ⟨_, rfl⟩ fl_10_49 (az_e 1 rfl) rfl rfl rfl ?_
    refine ax_mv 1 22 [some (.ref r), some (ax_i r1)] [ax_i 1, ax_i (V2 600 6), .ref r] rfl ?_
    refine ax_add (pc' := 23) ⟨_, rfl⟩ rfl ?_
    obtain ⟨o1, h⟩ := h
    obtain ⟨V3, eV3⟩ : ∃ W9 : ax_V, W9 = ax_u V2 600 6 ((V2 600 6) + 1) := ⟨_, rfl⟩
    have h := h V3 eV3
    have hg3 : ax_g V3 := eV3 ▸ ax_u_g hg2 o1
    refine ax_pI (kI := 6) (pc' := 26) ⟨_, rfl⟩ fl_10_49 az_ok (az_e 1 rfl) rfl rfl rfl rfl eV3 rfl ?_
    refine ax_mv 1 27 [some (.ref r), some (ax_i r1)] [.ref r] rfl ?_
    refine ax_gI (kI := 8) (pc' := 30) ⟨_, rfl⟩ fl_10_87 (az_e 1 rfl) rfl rfl rfl ?_
    refine ax_bip (pc' := 32) ⟨_, rfl⟩ (by decide) rfl ?_
    refine ax_mul (pc' := 33) ⟨_, rfl⟩ rfl ?_
    refine ax_mv 1 34 [some (.ref r), some (ax_i r1)] [ax_i r1, ax_i ((V3 600 8) * 26)] rfl ?_
    refine ax_bip (pc' := 36) ⟨_, rfl⟩ (by decide) rfl ?_
    refine ax_sub (pc' := 37) ⟨_, rfl⟩ rfl ?_
    refine ax_add (pc' := 38) ⟨_, rfl⟩ rfl ?_
    obtain ⟨o2, h⟩ := h
    exact ax_iret ⟨_, rfl⟩ rfl rfl o2 hg3 h
  · have h := h.1 (Classical.not_not.mp hc)
    refine ax_mv 1 13 [some (.ref r), some (ax_i r1)] [.ref r] rfl ?_
    refine ax_callN (pc' := 16) ⟨_, rfl⟩ ml_10_84 (rest := []) rfl (fun ss hs => ⟨_, _, (az_e 1 rfl) ss hs⟩) (Nat.le_of_ble_eq_true rfl) rfl rfl h (fun V4 hg4 h => ?_)
    refine ax_mv 2 18 [some (.ref r), some (ax_i r1)] [.ref r, .ref r] rfl ?_
    refine ax_gI (kI := 6) (pc' := 21) ⟨_, rfl⟩ fl_10_49 (az_e 1 rfl) rfl rfl rfl ?_
    refine ax_mv 1 22 [some (.ref r), some (ax_i r1)] [ax_i 1, ax_i (V4 600 6), .ref r] rfl ?_
    refine ax_add (pc' := 23) ⟨_, rfl⟩ rfl ?_
    obtain ⟨o3, h⟩ := h
    obtain ⟨V5, eV5⟩ : ∃ W9 : ax_V, W9 = ax_u V4 600 6 ((V4 600 6) + 1) := ⟨_, rfl⟩
    have h := h V5 eV5
    have hg5 : ax_g V5 := eV5 ▸ ax_u_g hg4 o3
    refine ax_pI (kI := 6) (pc' := 26) ⟨_, rfl⟩ fl_10_49 az_ok (az_e 1 rfl) rfl rfl rfl rfl eV5 rfl ?_
    refine ax_mv 1 27 [some (.ref r), some (ax_i r1)] [.ref r] rfl ?_
    refine ax_gI (kI := 8) (pc' := 30) ⟨_, rfl⟩ fl_10_87 (az_e 1 rfl) rfl rfl rfl ?_
    refine ax_bip (pc' := 32) ⟨_, rfl⟩ (by decide) rfl ?_
    refine ax_mul (pc' := 33) ⟨_, rfl⟩ rfl ?_
    refine ax_mv 1 34 [some (.ref r), some (ax_i r1)] [ax_i r1, ax_i ((V5 600 8) * 26)] rfl ?_
    refine ax_bip (pc' := 36) ⟨_, rfl⟩ (by decide) rfl ?_
    refine ax_sub (pc' := 37) ⟨_, rfl⟩ rfl ?_
    refine ax_add (pc' := 38) ⟨_, rfl⟩ rfl ?_
    obtain ⟨o4, h⟩ := h
    exact ax_iret ⟨_, rfl⟩ rfl rfl o4 hg5 h
theorem r_Reader_isLetter {B : Nat} {r : Nat} {d : Nat} {V : ax_V} {Φ : Int → ax_V → Prop} {Θ : ax_V → Prop} {x0 : Int} (hg : ax_g V) (hx0 : ax_rg x0) (h : ((x0 < 97 → Φ 0 V) ∧ (97 ≤ x0 → ((122 < x0 → Φ 0 V) ∧ (x0 ≤ 122 → Φ 1 V))))) : ax_I (az_W B (az_ER B r)) (d + 1) q_Reader_isLetter [ax_i x0] V Φ Θ := by
  refine ax_T.of (M := m_Reader_isLetter) rfl (Nat.le_of_ble_eq_true rfl) ?_
  refine ax_mv 0 0 [some (ax_i x0)] [] rfl ?_
  refine ax_mv 1 1 [some (ax_i x0)] [ax_i x0] rfl ?_
  refine ax_bip (pc' := 3) ⟨_, rfl⟩ (by decide) rfl ?_
  refine ax_if2 (p1 := 16) (p2 := 6) ⟨_, rfl⟩ (by decide) rfl hx0 (by decide) (fun hc => ?_) (fun hc => ?_)
  · have h := h.1 hc
    refine ax_mv 1 17 [some (ax_i x0)] [ax_i 0] rfl ?_
    exact ax_iret ⟨_, rfl⟩ rfl (ax_nbv (by decide)) (by decide) hg h
  · have h := h.2 (Int.not_lt.mp hc)
    refine ax_mv 1 7 [some (ax_i x0)] [ax_i x0] rfl ?_
    refine ax_bip (pc' := 9) ⟨_, rfl⟩ (by decide) rfl ?_
    refine ax_if2 (p1 := 16) (p2 := 12) ⟨_, rfl⟩ (by decide) rfl hx0 (by decide) (fun hc => ?_) (fun hc => ?_)
    · have h := h.1 hc
      refine ax_mv 1 17 [some (ax_i x0)] [ax_i 0] rfl ?_
      exact ax_iret ⟨_, rfl⟩ rfl (ax_nbv (by decide)) (by decide) hg h
    · have h := h.2 (Int.not_lt.mp hc)
      refine ax_mv 2 17 [some (ax_i x0)] [ax_i 1] rfl ?_
      exact ax_iret ⟨_, rfl⟩ rfl (ax_nbv (by decide)) (by decide) hg h
theorem r_Reader_takeClock {B : Nat} {r : Nat} {d : Nat} {V : ax_V} {Φ : Int → ax_V → Prop} {Θ : ax_V → Prop} (hg : ax_g V) (h : ax_I (az_W B (az_ER B r)) d q_Reader_look [.ref r] V (fun r1 V1 => ((r1 = 33 → ax_rg ((V1 600 6) + 1) ∧ (∀ V3, V3 = ax_u V1 600 6 ((V1 600 6) + 1) → ax_I (az_W B (az_ER B r)) d q_Reader_takeLetter [.ref r] V3 (fun r4 V4 => ax_rg ((2 * r4) + 1) ∧ Φ ((2 * r4) + 1) V4) Θ)) ∧ (¬ r1 = 33 → ax_I (az_W B (az_ER B r)) d q_Reader_takeLetter [.ref r] V1 (fun r2 V2 => ax_rg ((2 * r2) + 0) ∧ Φ ((2 * r2) + 0) V2) Θ))) Θ) : ax_I (az_W B (az_ER B r)) (d + 1) q_Reader_takeClock [.ref r] V Φ Θ := by
  refine ax_T.of (M := m_Reader_takeClock) rfl (Nat.le_of_ble_eq_true rfl) ?_
  refine ax_mv 0 0 [some (.ref r), none] [] rfl ?_
  refine ax_mv 1 1 [some (.ref r), none] [ax_i 0] rfl ?_
  refine ax_sti (i := 0) (k := 1) (n := 1) (pc' := 2) (L' := [some (.ref r), some (ax_i 0)]) ⟨_, rfl⟩ rfl rfl rfl (Nat.le_of_ble_eq_true rfl) rfl rfl ?_
  refine ax_mv 1 3 [some (.ref r), some (ax_i 0)] [.ref r] rfl ?_
  refine ax_callI (pc' := 6) ⟨_, rfl⟩ ml_10_56 (rest := []) rfl (fun ss hs => ⟨_, _, (az_e 1 rfl) ss hs⟩) (Nat.le_of_ble_eq_true rfl) rfl rfl h (fun r1 V1 hg1 hr1 h => ?_)
  refine ax_bip (pc' := 8) ⟨_, rfl⟩ (by decide) rfl ?_
  refine ax_if2 (p1 := 23) (p2 := 11) ⟨_, rfl⟩ (by decide) rfl hr1 (by decide) (fun hc => ?_) (fun hc => ?_)
  · have h := h.2 hc
    refine ax_mv 2 25 [some (.ref r), some (ax_i 0)] [.ref r, ax_i 2] rfl ?_
    refine ax_callI (pc' := 28) ⟨_, rfl⟩ ml_10_90 (rest := [ax_i 2]) rfl (fun ss hs => ⟨_, _, (az_e 1 rfl) ss hs⟩) (Nat.le_of_ble_eq_true rfl) rfl rfl h (fun r2 V2 hg2 hr2 h => ?_)
    refine ax_mul (pc' := 29) ⟨_, rfl⟩ rfl ?_
    refine ax_mv 1 30 [some (.ref r), some (ax_i 0)] [ax_i 0, ax_i (2 * r2)] rfl ?_
    refine ax_add (pc' := 31) ⟨_, rfl⟩ rfl ?_
    obtain ⟨o1, h⟩ := h
    exact ax_iret ⟨_, rfl⟩ rfl rfl o1 hg2 h
  · have h := h.1 (Classical.not_not.mp hc)
    refine ax_mv 1 12 [some (.ref r), some (ax_i 0)] [ax_i 1] rfl ?_
    refine ax_sti (i := 0) (k := 1) (n := 1) (pc' := 13) (L' := [some (.ref r), some (ax_i 1)]) ⟨_, rfl⟩ rfl rfl rfl (Nat.le_of_ble_eq_true rfl) rfl rfl ?_
    refine ax_mv 2 15 [some (.ref r), some (ax_i 1)] [.ref r, .ref r] rfl ?_
    refine ax_gI (kI := 6) (pc' := 18) ⟨_, rfl⟩ fl_10_49 (az_e 1 rfl) rfl rfl rfl ?_
    refine ax_mv 1 19 [some (.ref r), some (ax_i 1)] [ax_i 1, ax_i (V1 600 6), .ref r] rfl ?_
    refine ax_add (pc' := 20) ⟨_, rfl⟩ rfl ?_
    obtain ⟨o2, h⟩ := h
    obtain ⟨V3, eV3⟩ : ∃ W9 : ax_V, W9 = ax_u V1 600 6 ((V1 600 6) + 1) := ⟨_, rfl⟩
    have h := h V3 eV3
    have hg3 : ax_g V3 := eV3 ▸ ax_u_g hg1 o2
    refine ax_pI (kI := 6) (pc' := 23) ⟨_, rfl⟩ fl_10_49 az_ok (az_e 1 rfl) rfl rfl rfl rfl eV3 rfl ?_
    refine ax_mv 2 25 [some (.ref r), some (ax_i 1)] [.ref r, ax_i 2] rfl ?_
    refine ax_callI (pc' := 28) ⟨_, rfl⟩ ml_10_90 (rest := [ax_i 2]) rfl (fun ss hs => ⟨_, _, (az_e 1 rfl) ss hs⟩) (Nat.le_of_ble_eq_true rfl) rfl rfl h (fun r4 V4 hg4 hr4 h => ?_)
    refine ax_mul (pc' := 29) ⟨_, rfl⟩ rfl ?_
    refine ax_mv 1 30 [some (.ref r), some (ax_i 1)] [ax_i 1, ax_i (2 * r4)] rfl ?_
    refine ax_add (pc' := 31) ⟨_, rfl⟩ rfl ?_
    obtain ⟨o3, h⟩ := h
    exact ax_iret ⟨_, rfl⟩ rfl rfl o3 hg4 h
abbrev k_Reader_takeNumber_18 (B : Nat) (r : Nat) (d : Nat) (x1 : Int) (x2 : Int) (V : ax_V) (Φ : Int → ax_V → Prop) (Θ : ax_V → Prop) : Prop := ax_R (az_W B (az_ER B r)) ax_t d m_Reader_takeNumber 18 [some (.ref r), some (ax_i x1), some (ax_i x2)] [] V (ax_Ir Φ) Θ
theorem r_Reader_takeNumber_18 {B : Nat} {r : Nat} {d : Nat} {V : ax_V} {Φ : Int → ax_V → Prop} {Θ : ax_V → Prop} {x1 : Int} {x2 : Int} (hg : ax_g V) (hx1 : ax_rg x1) (hx2 : ax_rg x2) (h : ((9 ≤ x2 → Φ x1 V) ∧ (x2 < 9 → ax_I (az_W B (az_ER B r)) d q_Reader_look [.ref r] V (fun r1 V1 => ax_I (az_W B (az_ER B r)) d q_Reader_isDigit [ax_i r1] V1 (fun r2 V2 => ((r2 = 0 → Φ x1 V2) ∧ (¬ r2 = 0 → ax_I (az_W B (az_ER B r)) d q_Reader_look [.ref r] V2 (fun r3 V3 => ax_rg ((V3 600 6) + 1) ∧ (∀ V4, V4 = ax_u V3 600 6 ((V3 600 6) + 1) → k_Reader_takeNumber_18 B r d ((x1 * 10) + (r3 - 48)) (x2 + 1) V4 Φ Θ)) Θ))) (fun _ => False)) Θ))) : k_Reader_takeNumber_18 B r d x1 x2 V Φ Θ := by
  refine ax_mv 1 19 [some (.ref r), some (ax_i x1), some (ax_i x2)] [ax_i x2] rfl ?_
  refine ax_bip (pc' := 21) ⟨_, rfl⟩ (by decide) rfl ?_
  refine ax_if2 (p1 := 63) (p2 := 24) ⟨_, rfl⟩ (by decide) rfl hx2 (by decide) (fun hc => ?_) (fun hc => ?_)
  · have h := h.1 hc
    refine ax_mv 1 64 [some (.ref r), some (ax_i x1), some (ax_i x2)] [ax_i x1] rfl ?_
    exact ax_iret ⟨_, rfl⟩ rfl rfl hx1 hg h
  · have h := h.2 (Int.not_le.mp hc)
    refine ax_mv 1 25 [some (.ref r), some (ax_i x1), some (ax_i x2)] [.ref r] rfl ?_
    refine ax_callI (pc' := 28) ⟨_, rfl⟩ ml_10_56 (rest := []) rfl (fun ss hs => ⟨_, _, (az_e 1 rfl) ss hs⟩) (Nat.le_of_ble_eq_true rfl) rfl rfl h (fun r1 V1 hg1 hr1 h => ?_)
    refine ax_callS (pc' := 31) ⟨_, rfl⟩ ml_10_94 (Nat.le_of_ble_eq_true rfl) (Nat.le_of_ble_eq_true rfl) rfl h (fun r2 V2 hg2 hr2 h => ?_)
    refine ax_mv 0 31 [some (.ref r), some (ax_i x1), some (ax_i x2)] [ax_i r2] rfl ?_
    refine ax_if (p1 := 63) (p2 := 34) ⟨_, rfl⟩ (by decide) rfl hr2 (fun hc => ?_) (fun hc => ?_)
    · have h := h.1 hc
      refine ax_mv 1 64 [some (.ref r), some (ax_i x1), some (ax_i x2)] [ax_i x1] rfl ?_
      exact ax_iret ⟨_, rfl⟩ rfl rfl hx1 hg2 h
    · have h := h.2 hc
      refine ax_mv 1 35 [some (.ref r), some (ax_i x1), some (ax_i x2)] [ax_i x1] rfl ?_
      refine ax_bip (pc' := 37) ⟨_, rfl⟩ (by decide) rfl ?_
      refine ax_mul (pc' := 38) ⟨_, rfl⟩ rfl ?_
      refine ax_mv 1 39 [some (.ref r), some (ax_i x1), some (ax_i x2)] [.ref r, ax_i (x1 * 10)] rfl ?_
      refine ax_callI (pc' := 42) ⟨_, rfl⟩ ml_10_56 (rest := [ax_i (x1 * 10)]) rfl (fun ss hs => ⟨_, _, (az_e 1 rfl) ss hs⟩) (Nat.le_of_ble_eq_true rfl) rfl rfl h (fun r3 V3 hg3 hr3 h => ?_)
      refine ax_bip (pc' := 44) ⟨_, rfl⟩ (by decide) rfl ?_
      refine ax_sub (pc' := 45) ⟨_, rfl⟩ rfl ?_
      refine ax_add (pc' := 46) ⟨_, rfl⟩ rfl ?_
      refine ax_sti (i := 0) (k := 1) (n := 1) (pc' := 47) (L' := [some (.ref r), some (ax_i ((x1 * 10) + (r3 - 48))), some (ax_i x2)]) ⟨_, rfl⟩ rfl rfl rfl (Nat.le_of_ble_eq_true rfl) rfl rfl ?_
      refine ax_mv 2 49 [some (.ref r), some (ax_i ((x1 * 10) + (r3 - 48))), some (ax_i x2)] [.ref r, .ref r] rfl ?_
      refine ax_gI (kI := 6) (pc' := 52) ⟨_, rfl⟩ fl_10_49 (az_e 1 rfl) rfl rfl rfl ?_
      refine ax_mv 1 53 [some (.ref r), some (ax_i ((x1 * 10) + (r3 - 48))), some (ax_i x2)] [ax_i 1, ax_i (V3 600 6), .ref r] rfl ?_
      refine ax_add (pc' := 54) ⟨_, rfl⟩ rfl ?_
      obtain ⟨o1, h⟩ := h
      obtain ⟨V4, eV4⟩ : ∃ W9 : ax_V, W9 = ax_u V3 600 6 ((V3 600 6) + 1) := ⟨_, rfl⟩
      have h := h V4 eV4
      have hg4 : ax_g V4 := eV4 ▸ ax_u_g hg3 o1
      refine ax_pI (kI := 6) (pc' := 57) ⟨_, rfl⟩ fl_10_49 az_ok (az_e 1 rfl) rfl rfl rfl rfl eV4 rfl ?_
      refine ax_inc (x := x2) (pc' := 60) (L' := [some (.ref r), some (ax_i ((x1 * 10) + (r3 - 48))), some (ax_i (x2 + 1))]) ⟨_, rfl⟩ rfl rfl rfl rfl ?_
      refine ax_mv 1 18 [some (.ref r), some (ax_i ((x1 * 10) + (r3 - 48))), some (ax_i (x2 + 1))] [] rfl ?_
      exact h
theorem r_Reader_takeNumber {B : Nat} {r : Nat} {d : Nat} {V : ax_V} {Φ : Int → ax_V → Prop} {Θ : ax_V → Prop} (hg : ax_g V) (h : ax_I (az_W B (az_ER B r)) d q_Reader_look [.ref r] V (fun r1 V1 => ax_I (az_W B (az_ER B r)) d q_Reader_isDigit [ax_i r1] V1 (fun r2 V2 => ((r2 = 0 → ax_N (az_W B (az_ER B r)) d q_Reader_refuse [.ref r] V2 (fun V3 => k_Reader_takeNumber_18 B r d 0 0 V3 Φ Θ) Θ) ∧ (¬ r2 = 0 → k_Reader_takeNumber_18 B r d 0 0 V2 Φ Θ))) (fun _ => False)) Θ) : ax_I (az_W B (az_ER B r)) (d + 1) q_Reader_takeNumber [.ref r] V Φ Θ := by
  refine ax_T.of (M := m_Reader_takeNumber) rfl (Nat.le_of_ble_eq_true rfl) ?_
  refine ax_mv 0 0 [some (.ref r), none, none] [] rfl ?_
  refine ax_mv 1 1 [some (.ref r), none, none] [ax_i 0] rfl ?_
  refine ax_sti (i := 0) (k := 1) (n := 1) (pc' := 2) (L' := [some (.ref r), some (ax_i 0), none]) ⟨_, rfl⟩ rfl rfl rfl (Nat.le_of_ble_eq_true rfl) rfl rfl ?_
  refine ax_mv 1 3 [some (.ref r), some (ax_i 0), none] [.ref r] rfl ?_
  refine ax_callI (pc' := 6) ⟨_, rfl⟩ ml_10_56 (rest := []) rfl (fun ss hs => ⟨_, _, (az_e 1 rfl) ss hs⟩) (Nat.le_of_ble_eq_true rfl) rfl rfl h (fun r1 V1 hg1 hr1 h => ?_)
  refine ax_callS (pc' := 9) ⟨_, rfl⟩ ml_10_94 (Nat.le_of_ble_eq_true rfl) (Nat.le_of_ble_eq_true rfl) rfl h (fun r2 V2 hg2 hr2 h => ?_)
  refine ax_mv 0 9 [some (.ref r), some (ax_i 0), none] [ax_i r2] rfl ?_
  refine ax_if (p1 := 16) (p2 := 12) ⟨_, rfl⟩ (by decide) rfl hr2 (fun hc => ?_) (fun hc => ?_)
  · have h := h.2 hc
    refine ax_mv 1 17 [some (.ref r), some (ax_i 0), none] [ax_i 0] rfl ?_
    refine ax_sti (i := 0) (k := 2) (n := 1) (pc' := 18) (L' := [some (.ref r), some (ax_i 0), some (ax_i 0)]) ⟨_, rfl⟩ rfl rfl rfl (Nat.le_of_ble_eq_true rfl) rfl rfl ?_
    exact h
  · have h := h.1 (Classical.not_not.mp hc)
    refine ax_mv 1 13 [some (.ref r), some (ax_i 0), none] [.ref r] rfl ?_
    refine ax_callN (pc' := 16) ⟨_, rfl⟩ ml_10_84 (rest := []) rfl (fun ss hs => ⟨_, _, (az_e 1 rfl) ss hs⟩) (Nat.le_of_ble_eq_true rfl) rfl rfl h (fun V3 hg3 h => ?_)
    refine ax_mv 1 17 [some (.ref r), some (ax_i 0), none] [ax_i 0] rfl ?_
    refine ax_sti (i := 0) (k := 2) (n := 1) (pc' := 18) (L' := [some (.ref r), some (ax_i 0), some (ax_i 0)]) ⟨_, rfl⟩ rfl rfl rfl (Nat.le_of_ble_eq_true rfl) rfl rfl ?_
    exact h
theorem r_Reader_isDigit {B : Nat} {r : Nat} {d : Nat} {V : ax_V} {Φ : Int → ax_V → Prop} {Θ : ax_V → Prop} {x0 : Int} (hg : ax_g V) (hx0 : ax_rg x0) (h : ((x0 < 48 → Φ 0 V) ∧ (48 ≤ x0 → ((57 < x0 → Φ 0 V) ∧ (x0 ≤ 57 → Φ 1 V))))) : ax_I (az_W B (az_ER B r)) (d + 1) q_Reader_isDigit [ax_i x0] V Φ Θ := by
  refine ax_T.of (M := m_Reader_isDigit) rfl (Nat.le_of_ble_eq_true rfl) ?_
  refine ax_mv 0 0 [some (ax_i x0)] [] rfl ?_
  refine ax_mv 1 1 [some (ax_i x0)] [ax_i x0] rfl ?_
  refine ax_bip (pc' := 3) ⟨_, rfl⟩ (by decide) rfl ?_
  refine ax_if2 (p1 := 16) (p2 := 6) ⟨_, rfl⟩ (by decide) rfl hx0 (by decide) (fun hc => ?_) (fun hc => ?_)
  · have h := h.1 hc
    refine ax_mv 1 17 [some (ax_i x0)] [ax_i 0] rfl ?_
    exact ax_iret ⟨_, rfl⟩ rfl (ax_nbv (by decide)) (by decide) hg h
  · have h := h.2 (Int.not_lt.mp hc)
    refine ax_mv 1 7 [some (ax_i x0)] [ax_i x0] rfl ?_
    refine ax_bip (pc' := 9) ⟨_, rfl⟩ (by decide) rfl ?_
    refine ax_if2 (p1 := 16) (p2 := 12) ⟨_, rfl⟩ (by decide) rfl hx0 (by decide) (fun hc => ?_) (fun hc => ?_)
    · have h := h.1 hc
      refine ax_mv 1 17 [some (ax_i x0)] [ax_i 0] rfl ?_
      exact ax_iret ⟨_, rfl⟩ rfl (ax_nbv (by decide)) (by decide) hg h
    · have h := h.2 (Int.not_lt.mp hc)
      refine ax_mv 2 17 [some (ax_i x0)] [ax_i 1] rfl ?_
      exact ax_iret ⟨_, rfl⟩ rfl (ax_nbv (by decide)) (by decide) hg h
abbrev k_Reader_readAutomaton_41 (B : Nat) (r : Nat) (d : Nat) (x1 : Int) (x2 : Int) (y3 : Option Value) (V : ax_V) (Φ : ax_V → Prop) (Θ : ax_V → Prop) : Prop := ax_R (az_W B (az_ER B r)) ax_t d m_Reader_readAutomaton 41 [some (.ref r), some (ax_i x1), some (ax_i x2), y3] [] V (ax_Nr Φ) Θ
abbrev k_Reader_readAutomaton_63 (B : Nat) (r : Nat) (d : Nat) (x1 : Int) (x2 : Int) (y3 : Option Value) (V : ax_V) (Φ : ax_V → Prop) (Θ : ax_V → Prop) : Prop := ax_R (az_W B (az_ER B r)) ax_t d m_Reader_readAutomaton 63 [some (.ref r), some (ax_i x1), some (ax_i x2), y3] [] V (ax_Nr Φ) Θ
abbrev k_Reader_readAutomaton_100 (B : Nat) (r : Nat) (d : Nat) (x1 : Int) (x2 : Int) (x3 : Int) (V : ax_V) (Φ : ax_V → Prop) (Θ : ax_V → Prop) : Prop := ax_R (az_W B (az_ER B r)) ax_t d m_Reader_readAutomaton 100 [some (.ref r), some (ax_i x1), some (ax_i x2), some (ax_i x3)] [] V (ax_Nr Φ) Θ
abbrev k_Reader_readAutomaton_129 (B : Nat) (r : Nat) (d : Nat) (x1 : Int) (x2 : Int) (x3 : Int) (V : ax_V) (Φ : ax_V → Prop) (Θ : ax_V → Prop) : Prop := ax_R (az_W B (az_ER B r)) ax_t d m_Reader_readAutomaton 129 [some (.ref r), some (ax_i x1), some (ax_i x2), some (ax_i x3)] [] V (ax_Nr Φ) Θ
set_option maxRecDepth 20000 in
theorem r_Reader_readAutomaton_41 {B : Nat} {r : Nat} {d : Nat} {V : ax_V} {Φ : ax_V → Prop} {Θ : ax_V → Prop} {x1 : Int} {x2 : Int} {y3 : Option Value} (hg : ax_g V) (hx1 : ax_rg x1) (hx2 : ax_rg x2) (hy3 : ax_y y3) (h : ((6 ≤ x2 → (∀ V1, V1 = ax_u V 600 9 (-1) → ax_N (az_W B (az_ER B r)) d q_Reader_expect [.ref r, ax_i 59] V1 (fun V2 => Φ V2) Θ)) ∧ (x2 < 6 → ((x2 ≤ 0 → k_Reader_readAutomaton_63 B r d x1 x2 y3 V Φ Θ) ∧ (0 < x2 → ax_I (az_W B (az_ER B r)) d q_Reader_look [.ref r] V (fun r3 V3 => ((r3 = 123 → k_Reader_readAutomaton_63 B r d x1 x2 y3 V3 Φ Θ) ∧ (¬ r3 = 123 → (∀ V4, V4 = ax_u V3 600 9 (-1) → ax_N (az_W B (az_ER B r)) d q_Reader_expect [.ref r, ax_i 59] V4 (fun V5 => Φ V5) Θ)))) Θ))))) : k_Reader_readAutomaton_41 B r d x1 x2 y3 V Φ Θ := by
  refine ax_mv 1 42 [some (.ref r), some (ax_i x1), some (ax_i x2), y3] [ax_i x2] rfl ?_
  refine ax_bip (pc' := 44) ⟨_, rfl⟩ (by decide) rfl ?_
  refine ax_if2 (p1 := 176) (p2 := 47) ⟨_, rfl⟩ (by decide) rfl hx2 (by decide) (fun hc => ?_) (fun hc => ?_)
  · have h := h.1 hc
    refine ax_mv 2 178 [some (.ref r), some (ax_i x1), some (ax_i x2), y3] [ax_i (-1), .ref r] rfl ?_
    obtain ⟨V1, eV1⟩ : ∃ W9 : ax_V, W9 = ax_u V 600 9 (-1) := ⟨_, rfl⟩
    have h := h V1 eV1
    have hg1 : ax_g V1 := eV1 ▸ ax_u_g hg (by decide)
    refine ax_pI (kI := 9) (pc' := 181) ⟨_, rfl⟩ fl_10_15 az_ok (az_e 1 rfl) rfl rfl rfl rfl eV1 rfl ?_
    refine ax_mv 1 182 [some (.ref r), some (ax_i x1), some (ax_i x2), y3] [.ref r] rfl ?_
    refine ax_bip (pc' := 184) ⟨_, rfl⟩ (by decide) rfl ?_
    refine ax_callN (pc' := 187) ⟨_, rfl⟩ ml_10_70 (rest := []) rfl (fun ss hs => ⟨_, _, (az_e 1 rfl) ss hs⟩) (Nat.le_of_ble_eq_true rfl) rfl rfl h (fun V2 hg2 h => ?_)
    exact ax_nret ⟨_, rfl⟩ rfl hg2 h
  · have h := h.2 (Int.not_le.mp hc)
    refine ax_mv 1 48 [some (.ref r), some (ax_i x1), some (ax_i x2), y3] [ax_i x2] rfl ?_
    refine ax_if (p1 := 63) (p2 := 51) ⟨_, rfl⟩ (by decide) rfl hx2 (fun hc => ?_) (fun hc => ?_)
    · have h := h.1 hc
      exact h
    · have h := h.2 (Int.not_le.mp hc)
      refine ax_mv 1 52 [some (.ref r), some (ax_i x1), some (ax_i x2), y3] [.ref r] rfl ?_
      refine ax_callI (pc' := 55) ⟨_, rfl⟩ ml_10_56 (rest := []) rfl (fun ss hs => ⟨_, _, (az_e 1 rfl) ss hs⟩) (Nat.le_of_ble_eq_true rfl) rfl rfl h (fun r3 V3 hg3 hr3 h => ?_)
      refine ax_bip (pc' := 57) ⟨_, rfl⟩ (by decide) rfl ?_
      refine ax_if2 (p1 := 63) (p2 := 60) ⟨_, rfl⟩ (by decide) rfl hr3 (by decide) (fun hc => ?_) (fun hc => ?_)
      · have h := h.1 hc
        exact h
      · have h := h.2 hc
        refine ax_mv 3 178 [some (.ref r), some (ax_i x1), some (ax_i x2), y3] [ax_i (-1), .ref r] rfl ?_
        obtain ⟨V4, eV4⟩ : ∃ W9 : ax_V, W9 = ax_u V3 600 9 (-1) := ⟨_, rfl⟩
        have h := h V4 eV4
        have hg4 : ax_g V4 := eV4 ▸ ax_u_g hg3 (by decide)
        refine ax_pI (kI := 9) (pc' := 181) ⟨_, rfl⟩ fl_10_15 az_ok (az_e 1 rfl) rfl rfl rfl rfl eV4 rfl ?_
        refine ax_mv 1 182 [some (.ref r), some (ax_i x1), some (ax_i x2), y3] [.ref r] rfl ?_
        refine ax_bip (pc' := 184) ⟨_, rfl⟩ (by decide) rfl ?_
        refine ax_callN (pc' := 187) ⟨_, rfl⟩ ml_10_70 (rest := []) rfl (fun ss hs => ⟨_, _, (az_e 1 rfl) ss hs⟩) (Nat.le_of_ble_eq_true rfl) rfl rfl h (fun V5 hg5 h => ?_)
        exact ax_nret ⟨_, rfl⟩ rfl hg5 h
set_option maxRecDepth 20000 in
theorem r_Reader_readAutomaton_63 {B : Nat} {r : Nat} {d : Nat} {V : ax_V} {Φ : ax_V → Prop} {Θ : ax_V → Prop} {x1 : Int} {x2 : Int} {y3 : Option Value} (hg : ax_g V) (hx1 : ax_rg x1) (hx2 : ax_rg x2) (hy3 : ax_y y3) (h : ax_N (az_W B (az_ER B r)) d q_Reader_expect [.ref r, ax_i 123] V (fun V1 => ((V1 556 1 < 350 → ax_I (az_W B (az_ER B r)) d q_Automata_addState [.ref (B + 56), ax_i x1] V1 (fun r2 V2 => (∀ V3, V3 = ax_u V2 600 9 r2 → k_Reader_readAutomaton_100 B r d x1 x2 0 V3 Φ Θ)) Θ) ∧ (350 ≤ V1 556 1 → ax_N (az_W B (az_ER B r)) d q_Reader_refuse [.ref r] V1 (fun V4 => ax_I (az_W B (az_ER B r)) d q_Automata_addState [.ref (B + 56), ax_i x1] V4 (fun r5 V5 => (∀ V6, V6 = ax_u V5 600 9 r5 → k_Reader_readAutomaton_100 B r d x1 x2 0 V6 Φ Θ)) Θ) Θ))) Θ) : k_Reader_readAutomaton_63 B r d x1 x2 y3 V Φ Θ := by
  refine ax_mv 1 64 [some (.ref r), some (ax_i x1), some (ax_i x2), y3] [.ref r] rfl ?_
  refine ax_bip (pc' := 66) ⟨_, rfl⟩ (by decide) rfl ?_
  refine ax_callN (pc' := 69) ⟨_, rfl⟩ ml_10_70 (rest := []) rfl (fun ss hs => ⟨_, _, (az_e 1 rfl) ss hs⟩) (Nat.le_of_ble_eq_true rfl) rfl rfl h (fun V1 hg1 h => ?_)
  refine ax_mv 1 70 [some (.ref r), some (ax_i x1), some (ax_i x2), y3] [.ref r] rfl ?_
  refine ax_gR (v := .ref (B + 56)) (pc' := 73) ⟨_, rfl⟩ fl_10_45 (az_e 1 rfl) rfl rfl ?_
  refine ax_gI (kI := 1) (pc' := 76) ⟨_, rfl⟩ fl_10_183 (az_b 56 rfl) rfl rfl rfl ?_
  refine ax_sip (pc' := 79) ⟨_, rfl⟩ (by decide) rfl ?_
  refine ax_if2 (p1 := 86) (p2 := 82) ⟨_, rfl⟩ (by decide) rfl (hg1 _ _) (by decide) (fun hc => ?_) (fun hc => ?_)
  · have h := h.1 hc
    refine ax_mv 2 88 [some (.ref r), some (ax_i x1), some (ax_i x2), y3] [.ref r, .ref r] rfl ?_
    refine ax_gR (v := .ref (B + 56)) (pc' := 91) ⟨_, rfl⟩ fl_10_45 (az_e 1 rfl) rfl rfl ?_
    refine ax_mv 1 92 [some (.ref r), some (ax_i x1), some (ax_i x2), y3] [ax_i x1, .ref (B + 56), .ref r] rfl ?_
    refine ax_callI (pc' := 95) ⟨_, rfl⟩ ml_10_186 (rest := [.ref r]) rfl (fun ss hs => ⟨_, _, (az_b 56 rfl) ss hs⟩) (Nat.le_of_ble_eq_true rfl) rfl rfl h (fun r2 V2 hg2 hr2 h => ?_)
    obtain ⟨V3, eV3⟩ : ∃ W9 : ax_V, W9 = ax_u V2 600 9 r2 := ⟨_, rfl⟩
    have h := h V3 eV3
    have hg3 : ax_g V3 := eV3 ▸ ax_u_g hg2 hr2
    refine ax_pI (kI := 9) (pc' := 98) ⟨_, rfl⟩ fl_10_15 az_ok (az_e 1 rfl) rfl rfl rfl rfl eV3 rfl ?_
    refine ax_mv 1 99 [some (.ref r), some (ax_i x1), some (ax_i x2), y3] [ax_i 0] rfl ?_
    refine ax_sti (i := 0) (k := 3) (n := 1) (pc' := 100) (L' := [some (.ref r), some (ax_i x1), some (ax_i x2), some (ax_i 0)]) ⟨_, rfl⟩ rfl rfl rfl (Nat.le_of_ble_eq_true rfl) rfl rfl ?_
    exact h
  · have h := h.2 (Int.not_lt.mp hc)
    refine ax_mv 1 83 [some (.ref r), some (ax_i x1), some (ax_i x2), y3] [.ref r] rfl ?_
    refine ax_callN (pc' := 86) ⟨_, rfl⟩ ml_10_84 (rest := []) rfl (fun ss hs => ⟨_, _, (az_e 1 rfl) ss hs⟩) (Nat.le_of_ble_eq_true rfl) rfl rfl h (fun V4 hg4 h => ?_)
    refine ax_mv 2 88 [some (.ref r), some (ax_i x1), some (ax_i x2), y3] [.ref r, .ref r] rfl ?_
    refine ax_gR (v := .ref (B + 56)) (pc' := 91) ⟨_, rfl⟩ fl_10_45 (az_e 1 rfl) rfl rfl ?_
    refine ax_mv 1 92 [some (.ref r), some (ax_i x1), some (ax_i x2), y3] [ax_i x1, .ref (B + 56), .ref r] rfl ?_
    refine ax_callI (pc' := 95) ⟨_, rfl⟩ ml_10_186 (rest := [.ref r]) rfl (fun ss hs => ⟨_, _, (az_b 56 rfl) ss hs⟩) (Nat.le_of_ble_eq_true rfl) rfl rfl h (fun r5 V5 hg5 hr5 h => ?_)
    obtain ⟨V6, eV6⟩ : ∃ W9 : ax_V, W9 = ax_u V5 600 9 r5 := ⟨_, rfl⟩
    have h := h V6 eV6
    have hg6 : ax_g V6 := eV6 ▸ ax_u_g hg5 hr5
    refine ax_pI (kI := 9) (pc' := 98) ⟨_, rfl⟩ fl_10_15 az_ok (az_e 1 rfl) rfl rfl rfl rfl eV6 rfl ?_
    refine ax_mv 1 99 [some (.ref r), some (ax_i x1), some (ax_i x2), y3] [ax_i 0] rfl ?_
    refine ax_sti (i := 0) (k := 3) (n := 1) (pc' := 100) (L' := [some (.ref r), some (ax_i x1), some (ax_i x2), some (ax_i 0)]) ⟨_, rfl⟩ rfl rfl rfl (Nat.le_of_ble_eq_true rfl) rfl rfl ?_
    exact h
set_option maxRecDepth 20000 in
theorem r_Reader_readAutomaton_100 {B : Nat} {r : Nat} {d : Nat} {V : ax_V} {Φ : ax_V → Prop} {Θ : ax_V → Prop} {x1 : Int} {x2 : Int} {x3 : Int} (hg : ax_g V) (hx1 : ax_rg x1) (hx2 : ax_rg x2) (hx3 : ax_rg x3) (h : ((700 ≤ x3 → k_Reader_readAutomaton_129 B r d x1 x2 0 V Φ Θ) ∧ (x3 < 700 → ax_I (az_W B (az_ER B r)) d q_Reader_look [.ref r] V (fun r1 V1 => ax_I (az_W B (az_ER B r)) d q_Reader_isLetter [ax_i r1] V1 (fun r2 V2 => ((r2 = 0 → k_Reader_readAutomaton_129 B r d x1 x2 0 V2 Φ Θ) ∧ (¬ r2 = 0 → ax_N (az_W B (az_ER B r)) d q_Reader_readEquation [.ref r] V2 (fun V3 => k_Reader_readAutomaton_100 B r d x1 x2 (x3 + 1) V3 Φ Θ) Θ))) (fun _ => False)) Θ))) : k_Reader_readAutomaton_100 B r d x1 x2 x3 V Φ Θ := by
  refine ax_mv 1 101 [some (.ref r), some (ax_i x1), some (ax_i x2), some (ax_i x3)] [ax_i x3] rfl ?_
  refine ax_sip (pc' := 104) ⟨_, rfl⟩ (by decide) rfl ?_
  refine ax_if2 (p1 := 127) (p2 := 107) ⟨_, rfl⟩ (by decide) rfl hx3 (by decide) (fun hc => ?_) (fun hc => ?_)
  · have h := h.1 hc
    refine ax_mv 1 128 [some (.ref r), some (ax_i x1), some (ax_i x2), some (ax_i x3)] [ax_i 0] rfl ?_
    refine ax_sti (i := 0) (k := 3) (n := 1) (pc' := 129) (L' := [some (.ref r), some (ax_i x1), some (ax_i x2), some (ax_i 0)]) ⟨_, rfl⟩ rfl rfl rfl (Nat.le_of_ble_eq_true rfl) rfl rfl ?_
    exact h
  · have h := h.2 (Int.not_le.mp hc)
    refine ax_mv 1 108 [some (.ref r), some (ax_i x1), some (ax_i x2), some (ax_i x3)] [.ref r] rfl ?_
    refine ax_callI (pc' := 111) ⟨_, rfl⟩ ml_10_56 (rest := []) rfl (fun ss hs => ⟨_, _, (az_e 1 rfl) ss hs⟩) (Nat.le_of_ble_eq_true rfl) rfl rfl h (fun r1 V1 hg1 hr1 h => ?_)
    refine ax_callS (pc' := 114) ⟨_, rfl⟩ ml_10_60 (Nat.le_of_ble_eq_true rfl) (Nat.le_of_ble_eq_true rfl) rfl h (fun r2 V2 hg2 hr2 h => ?_)
    refine ax_mv 0 114 [some (.ref r), some (ax_i x1), some (ax_i x2), some (ax_i x3)] [ax_i r2] rfl ?_
    refine ax_if (p1 := 127) (p2 := 117) ⟨_, rfl⟩ (by decide) rfl hr2 (fun hc => ?_) (fun hc => ?_)
    · have h := h.1 hc
      refine ax_mv 1 128 [some (.ref r), some (ax_i x1), some (ax_i x2), some (ax_i x3)] [ax_i 0] rfl ?_
      refine ax_sti (i := 0) (k := 3) (n := 1) (pc' := 129) (L' := [some (.ref r), some (ax_i x1), some (ax_i x2), some (ax_i 0)]) ⟨_, rfl⟩ rfl rfl rfl (Nat.le_of_ble_eq_true rfl) rfl rfl ?_
      exact h
    · have h := h.2 hc
      refine ax_mv 1 118 [some (.ref r), some (ax_i x1), some (ax_i x2), some (ax_i x3)] [.ref r] rfl ?_
      refine ax_callN (pc' := 121) ⟨_, rfl⟩ ml_10_67 (rest := []) rfl (fun ss hs => ⟨_, _, (az_e 1 rfl) ss hs⟩) (Nat.le_of_ble_eq_true rfl) rfl rfl h (fun V3 hg3 h => ?_)
      refine ax_inc (x := x3) (pc' := 124) (L' := [some (.ref r), some (ax_i x1), some (ax_i x2), some (ax_i (x3 + 1))]) ⟨_, rfl⟩ rfl rfl rfl rfl ?_
      refine ax_mv 1 100 [some (.ref r), some (ax_i x1), some (ax_i x2), some (ax_i (x3 + 1))] [] rfl ?_
      exact h
set_option maxRecDepth 20000 in
theorem r_Reader_readAutomaton_129 {B : Nat} {r : Nat} {d : Nat} {V : ax_V} {Φ : ax_V → Prop} {Θ : ax_V → Prop} {x1 : Int} {x2 : Int} {x3 : Int} (hg : ax_g V) (hx1 : ax_rg x1) (hx2 : ax_rg x2) (hx3 : ax_rg x3) (h : ((700 ≤ x3 → ax_N (az_W B (az_ER B r)) d q_Reader_expect [.ref r, ax_i 125] V (fun V1 => k_Reader_readAutomaton_41 B r d x1 (x2 + 1) (some (ax_i x3)) V1 Φ Θ) Θ) ∧ (x3 < 700 → ax_I (az_W B (az_ER B r)) d q_Reader_look [.ref r] V (fun r2 V2 => ((r2 = 33 → ax_N (az_W B (az_ER B r)) d q_Reader_readMove [.ref r] V2 (fun V3 => k_Reader_readAutomaton_129 B r d x1 x2 (x3 + 1) V3 Φ Θ) Θ) ∧ (¬ r2 = 33 → ax_I (az_W B (az_ER B r)) d q_Reader_look [.ref r] V2 (fun r4 V4 => ((r4 = 63 → ax_N (az_W B (az_ER B r)) d q_Reader_readMove [.ref r] V4 (fun V6 => k_Reader_readAutomaton_129 B r d x1 x2 (x3 + 1) V6 Φ Θ) Θ) ∧ (¬ r4 = 63 → ax_N (az_W B (az_ER B r)) d q_Reader_expect [.ref r, ax_i 125] V4 (fun V5 => k_Reader_readAutomaton_41 B r d x1 (x2 + 1) (some (ax_i x3)) V5 Φ Θ) Θ))) Θ))) Θ))) : k_Reader_readAutomaton_129 B r d x1 x2 x3 V Φ Θ := by
  refine ax_mv 1 130 [some (.ref r), some (ax_i x1), some (ax_i x2), some (ax_i x3)] [ax_i x3] rfl ?_
  refine ax_sip (pc' := 133) ⟨_, rfl⟩ (by decide) rfl ?_
  refine ax_if2 (p1 := 164) (p2 := 136) ⟨_, rfl⟩ (by decide) rfl hx3 (by decide) (fun hc => ?_) (fun hc => ?_)
  · have h := h.1 hc
    refine ax_mv 1 165 [some (.ref r), some (ax_i x1), some (ax_i x2), some (ax_i x3)] [.ref r] rfl ?_
    refine ax_bip (pc' := 167) ⟨_, rfl⟩ (by decide) rfl ?_
    refine ax_callN (pc' := 170) ⟨_, rfl⟩ ml_10_70 (rest := []) rfl (fun ss hs => ⟨_, _, (az_e 1 rfl) ss hs⟩) (Nat.le_of_ble_eq_true rfl) rfl rfl h (fun V1 hg1 h => ?_)
    refine ax_inc (x := x2) (pc' := 173) (L' := [some (.ref r), some (ax_i x1), some (ax_i (x2 + 1)), some (ax_i x3)]) ⟨_, rfl⟩ rfl rfl rfl rfl ?_
    refine ax_mv 1 41 [some (.ref r), some (ax_i x1), some (ax_i (x2 + 1)), some (ax_i x3)] [] rfl ?_
    exact h
  · have h := h.2 (Int.not_le.mp hc)
    refine ax_mv 1 137 [some (.ref r), some (ax_i x1), some (ax_i x2), some (ax_i x3)] [.ref r] rfl ?_
    refine ax_callI (pc' := 140) ⟨_, rfl⟩ ml_10_56 (rest := []) rfl (fun ss hs => ⟨_, _, (az_e 1 rfl) ss hs⟩) (Nat.le_of_ble_eq_true rfl) rfl rfl h (fun r2 V2 hg2 hr2 h => ?_)
    refine ax_bip (pc' := 142) ⟨_, rfl⟩ (by decide) rfl ?_
    refine ax_if2 (p1 := 154) (p2 := 145) ⟨_, rfl⟩ (by decide) rfl hr2 (by decide) (fun hc => ?_) (fun hc => ?_)
    · have h := h.1 hc
      refine ax_mv 1 155 [some (.ref r), some (ax_i x1), some (ax_i x2), some (ax_i x3)] [.ref r] rfl ?_
      refine ax_callN (pc' := 158) ⟨_, rfl⟩ ml_10_189 (rest := []) rfl (fun ss hs => ⟨_, _, (az_e 1 rfl) ss hs⟩) (Nat.le_of_ble_eq_true rfl) rfl rfl h (fun V3 hg3 h => ?_)
      refine ax_inc (x := x3) (pc' := 161) (L' := [some (.ref r), some (ax_i x1), some (ax_i x2), some (ax_i (x3 + 1))]) ⟨_, rfl⟩ rfl rfl rfl rfl ?_
      refine ax_mv 1 129 [some (.ref r), some (ax_i x1), some (ax_i x2), some (ax_i (x3 + 1))] [] rfl ?_
      exact h
    · have h := h.2 hc
      refine ax_mv 1 146 [some (.ref r), some (ax_i x1), some (ax_i x2), some (ax_i x3)] [.ref r] rfl ?_
      refine ax_callI (pc' := 149) ⟨_, rfl⟩ ml_10_56 (rest := []) rfl (fun ss hs => ⟨_, _, (az_e 1 rfl) ss hs⟩) (Nat.le_of_ble_eq_true rfl) rfl rfl h (fun r4 V4 hg4 hr4 h => ?_)
      refine ax_bip (pc' := 151) ⟨_, rfl⟩ (by decide) rfl ?_
      refine ax_if2 (p1 := 164) (p2 := 154) ⟨_, rfl⟩ (by decide) rfl hr4 (by decide) (fun hc => ?_) (fun hc => ?_)
      · have h := h.2 hc
        refine ax_mv 1 165 [some (.ref r), some (ax_i x1), some (ax_i x2), some (ax_i x3)] [.ref r] rfl ?_
        refine ax_bip (pc' := 167) ⟨_, rfl⟩ (by decide) rfl ?_
        refine ax_callN (pc' := 170) ⟨_, rfl⟩ ml_10_70 (rest := []) rfl (fun ss hs => ⟨_, _, (az_e 1 rfl) ss hs⟩) (Nat.le_of_ble_eq_true rfl) rfl rfl h (fun V5 hg5 h => ?_)
        refine ax_inc (x := x2) (pc' := 173) (L' := [some (.ref r), some (ax_i x1), some (ax_i (x2 + 1)), some (ax_i x3)]) ⟨_, rfl⟩ rfl rfl rfl rfl ?_
        refine ax_mv 1 41 [some (.ref r), some (ax_i x1), some (ax_i (x2 + 1)), some (ax_i x3)] [] rfl ?_
        exact h
      · have h := h.1 (Classical.not_not.mp hc)
        refine ax_mv 1 155 [some (.ref r), some (ax_i x1), some (ax_i x2), some (ax_i x3)] [.ref r] rfl ?_
        refine ax_callN (pc' := 158) ⟨_, rfl⟩ ml_10_189 (rest := []) rfl (fun ss hs => ⟨_, _, (az_e 1 rfl) ss hs⟩) (Nat.le_of_ble_eq_true rfl) rfl rfl h (fun V6 hg6 h => ?_)
        refine ax_inc (x := x3) (pc' := 161) (L' := [some (.ref r), some (ax_i x1), some (ax_i x2), some (ax_i (x3 + 1))]) ⟨_, rfl⟩ rfl rfl rfl rfl ?_
        refine ax_mv 1 129 [some (.ref r), some (ax_i x1), some (ax_i x2), some (ax_i (x3 + 1))] [] rfl ?_
        exact h
set_option maxRecDepth 20000 in
theorem r_Reader_readAutomaton {B : Nat} {r : Nat} {d : Nat} {V : ax_V} {Φ : ax_V → Prop} {Θ : ax_V → Prop} (hg : ax_g V) (h : ((V 556 0 < 350 → ax_I (az_W B (az_ER B r)) d q_Automata_add [.ref (B + 56), ax_i (V 600 6)] V (fun r1 V1 => ax_rg ((V1 600 6) + 1) ∧ (∀ V2, V2 = ax_u V1 600 6 ((V1 600 6) + 1) → k_Reader_readAutomaton_41 B r d r1 0 none V2 Φ Θ)) Θ) ∧ (350 ≤ V 556 0 → ax_N (az_W B (az_ER B r)) d q_Reader_refuse [.ref r] V (fun V3 => ax_I (az_W B (az_ER B r)) d q_Automata_add [.ref (B + 56), ax_i (V3 600 6)] V3 (fun r4 V4 => ax_rg ((V4 600 6) + 1) ∧ (∀ V5, V5 = ax_u V4 600 6 ((V4 600 6) + 1) → k_Reader_readAutomaton_41 B r d r4 0 none V5 Φ Θ)) Θ) Θ))) : ax_N (az_W B (az_ER B r)) (d + 1) q_Reader_readAutomaton [.ref r] V Φ Θ := by
  refine ax_T.of (M := m_Reader_readAutomaton) rfl (Nat.le_of_ble_eq_true rfl) ?_
  refine ax_mv 0 0 [some (.ref r), none, none, none] [] rfl ?_
  refine ax_mv 1 1 [some (.ref r), none, none, none] [.ref r] rfl ?_
  refine ax_gR (v := .ref (B + 56)) (pc' := 4) ⟨_, rfl⟩ fl_10_45 (az_e 1 rfl) rfl rfl ?_
  refine ax_gI (kI := 0) (pc' := 7) ⟨_, rfl⟩ fl_10_177 (az_b 56 rfl) rfl rfl rfl ?_
  refine ax_sip (pc' := 10) ⟨_, rfl⟩ (by decide) rfl ?_
  refine ax_if2 (p1 := 17) (p2 := 13) ⟨_, rfl⟩ (by decide) rfl (hg _ _) (by decide) (fun hc => ?_) (fun hc => ?_)
  · have h := h.1 hc
    refine ax_mv 1 18 [some (.ref r), none, none, none] [.ref r] rfl ?_
    refine ax_gR (v := .ref (B + 56)) (pc' := 21) ⟨_, rfl⟩ fl_10_45 (az_e 1 rfl) rfl rfl ?_
    refine ax_mv 1 22 [some (.ref r), none, none, none] [.ref r, .ref (B + 56)] rfl ?_
    refine ax_gI (kI := 6) (pc' := 25) ⟨_, rfl⟩ fl_10_49 (az_e 1 rfl) rfl rfl rfl ?_
    refine ax_callI (pc' := 28) ⟨_, rfl⟩ ml_10_180 (rest := []) rfl (fun ss hs => ⟨_, _, (az_b 56 rfl) ss hs⟩) (Nat.le_of_ble_eq_true rfl) rfl rfl h (fun r1 V1 hg1 hr1 h => ?_)
    refine ax_sti (i := 0) (k := 1) (n := 1) (pc' := 29) (L' := [some (.ref r), some (ax_i r1), none, none]) ⟨_, rfl⟩ rfl rfl rfl (Nat.le_of_ble_eq_true rfl) rfl rfl ?_
    refine ax_mv 2 31 [some (.ref r), some (ax_i r1), none, none] [.ref r, .ref r] rfl ?_
    refine ax_gI (kI := 6) (pc' := 34) ⟨_, rfl⟩ fl_10_49 (az_e 1 rfl) rfl rfl rfl ?_
    refine ax_mv 1 35 [some (.ref r), some (ax_i r1), none, none] [ax_i 1, ax_i (V1 600 6), .ref r] rfl ?_
    refine ax_add (pc' := 36) ⟨_, rfl⟩ rfl ?_
    obtain ⟨o1, h⟩ := h
    obtain ⟨V2, eV2⟩ : ∃ W9 : ax_V, W9 = ax_u V1 600 6 ((V1 600 6) + 1) := ⟨_, rfl⟩
    have h := h V2 eV2
    have hg2 : ax_g V2 := eV2 ▸ ax_u_g hg1 o1
    refine ax_pI (kI := 6) (pc' := 39) ⟨_, rfl⟩ fl_10_49 az_ok (az_e 1 rfl) rfl rfl rfl rfl eV2 rfl ?_
    refine ax_mv 1 40 [some (.ref r), some (ax_i r1), none, none] [ax_i 0] rfl ?_
    refine ax_sti (i := 0) (k := 2) (n := 1) (pc' := 41) (L' := [some (.ref r), some (ax_i r1), some (ax_i 0), none]) ⟨_, rfl⟩ rfl rfl rfl (Nat.le_of_ble_eq_true rfl) rfl rfl ?_
    exact h
  · have h := h.2 (Int.not_lt.mp hc)
    refine ax_mv 1 14 [some (.ref r), none, none, none] [.ref r] rfl ?_
    refine ax_callN (pc' := 17) ⟨_, rfl⟩ ml_10_84 (rest := []) rfl (fun ss hs => ⟨_, _, (az_e 1 rfl) ss hs⟩) (Nat.le_of_ble_eq_true rfl) rfl rfl h (fun V3 hg3 h => ?_)
    refine ax_mv 1 18 [some (.ref r), none, none, none] [.ref r] rfl ?_
    refine ax_gR (v := .ref (B + 56)) (pc' := 21) ⟨_, rfl⟩ fl_10_45 (az_e 1 rfl) rfl rfl ?_
    refine ax_mv 1 22 [some (.ref r), none, none, none] [.ref r, .ref (B + 56)] rfl ?_
    refine ax_gI (kI := 6) (pc' := 25) ⟨_, rfl⟩ fl_10_49 (az_e 1 rfl) rfl rfl rfl ?_
    refine ax_callI (pc' := 28) ⟨_, rfl⟩ ml_10_180 (rest := []) rfl (fun ss hs => ⟨_, _, (az_b 56 rfl) ss hs⟩) (Nat.le_of_ble_eq_true rfl) rfl rfl h (fun r4 V4 hg4 hr4 h => ?_)
    refine ax_sti (i := 0) (k := 1) (n := 1) (pc' := 29) (L' := [some (.ref r), some (ax_i r4), none, none]) ⟨_, rfl⟩ rfl rfl rfl (Nat.le_of_ble_eq_true rfl) rfl rfl ?_
    refine ax_mv 2 31 [some (.ref r), some (ax_i r4), none, none] [.ref r, .ref r] rfl ?_
    refine ax_gI (kI := 6) (pc' := 34) ⟨_, rfl⟩ fl_10_49 (az_e 1 rfl) rfl rfl rfl ?_
    refine ax_mv 1 35 [some (.ref r), some (ax_i r4), none, none] [ax_i 1, ax_i (V4 600 6), .ref r] rfl ?_
    refine ax_add (pc' := 36) ⟨_, rfl⟩ rfl ?_
    obtain ⟨o2, h⟩ := h
    obtain ⟨V5, eV5⟩ : ∃ W9 : ax_V, W9 = ax_u V4 600 6 ((V4 600 6) + 1) := ⟨_, rfl⟩
    have h := h V5 eV5
    have hg5 : ax_g V5 := eV5 ▸ ax_u_g hg4 o2
    refine ax_pI (kI := 6) (pc' := 39) ⟨_, rfl⟩ fl_10_49 az_ok (az_e 1 rfl) rfl rfl rfl rfl eV5 rfl ?_
    refine ax_mv 1 40 [some (.ref r), some (ax_i r4), none, none] [ax_i 0] rfl ?_
    refine ax_sti (i := 0) (k := 2) (n := 1) (pc' := 41) (L' := [some (.ref r), some (ax_i r4), some (ax_i 0), none]) ⟨_, rfl⟩ rfl rfl rfl (Nat.le_of_ble_eq_true rfl) rfl rfl ?_
    exact h
abbrev k_Reader_readEquation_38 (B : Nat) (r : Nat) (d : Nat) (x1 : Int) (x2 : Int) (y3 : Option Value) (y4 : Option Value) (V : ax_V) (Φ : ax_V → Prop) (Θ : ax_V → Prop) : Prop := ax_R (az_W B (az_ER B r)) ax_t d m_Reader_readEquation 38 [some (.ref r), some (ax_i x1), some (ax_i x2), y3, y4] [] V (ax_Nr Φ) Θ
abbrev k_Reader_readEquation_112 (B : Nat) (r : Nat) (d : Nat) (x1 : Int) (y2 : Option Value) (y3 : Option Value) (y4 : Option Value) (V : ax_V) (Φ : ax_V → Prop) (Θ : ax_V → Prop) : Prop := ax_R (az_W B (az_ER B r)) ax_t d m_Reader_readEquation 112 [some (.ref r), some (ax_i x1), y2, y3, y4] [] V (ax_Nr Φ) Θ
set_option maxRecDepth 20000 in
theorem r_Reader_readEquation_38 {B : Nat} {r : Nat} {d : Nat} {V : ax_V} {Φ : ax_V → Prop} {Θ : ax_V → Prop} {x1 : Int} {x2 : Int} {y3 : Option Value} {y4 : Option Value} (hg : ax_g V) (hx1 : ax_rg x1) (hx2 : ax_rg x2) (hy3 : ax_y y3) (hy4 : ax_y y4) (h : ((700 ≤ x2 → k_Reader_readEquation_112 B r d x1 (some (ax_i x2)) y3 y4 V Φ Θ) ∧ (x2 < 700 → ax_I (az_W B (az_ER B r)) d q_Reader_takeLetter [.ref r] V (fun r1 V1 => ((V1 547 1 < 350 → ax_N (az_W B (az_ER B r)) d q_Equations_addHead [.ref (B + 47), ax_i x1, ax_i r1, ax_i (V 600 6)] V1 (fun V2 => ax_I (az_W B (az_ER B r)) d q_Reader_look [.ref r] V2 (fun r3 V3 => ((r3 = 44 → ax_rg ((V3 600 6) + 1) ∧ (∀ V4, V4 = ax_u V3 600 6 ((V3 600 6) + 1) → k_Reader_readEquation_38 B r d x1 (x2 + 1) (some (ax_i (V 600 6))) (some (ax_i r1)) V4 Φ Θ)) ∧ (¬ r3 = 44 → k_Reader_readEquation_112 B r d x1 (some (ax_i x2)) (some (ax_i (V 600 6))) (some (ax_i r1)) V3 Φ Θ))) Θ) Θ) ∧ (350 ≤ V1 547 1 → ax_N (az_W B (az_ER B r)) d q_Reader_refuse [.ref r] V1 (fun V5 => ax_N (az_W B (az_ER B r)) d q_Equations_addHead [.ref (B + 47), ax_i x1, ax_i r1, ax_i (V 600 6)] V5 (fun V6 => ax_I (az_W B (az_ER B r)) d q_Reader_look [.ref r] V6 (fun r7 V7 => ((r7 = 44 → ax_rg ((V7 600 6) + 1) ∧ (∀ V8, V8 = ax_u V7 600 6 ((V7 600 6) + 1) → k_Reader_readEquation_38 B r d x1 (x2 + 1) (some (ax_i (V 600 6))) (some (ax_i r1)) V8 Φ Θ)) ∧ (¬ r7 = 44 → k_Reader_readEquation_112 B r d x1 (some (ax_i x2)) (some (ax_i (V 600 6))) (some (ax_i r1)) V7 Φ Θ))) Θ) Θ) Θ))) Θ))) : k_Reader_readEquation_38 B r d x1 x2 y3 y4 V Φ Θ := by
  refine ax_mv 1 39 [some (.ref r), some (ax_i x1), some (ax_i x2), y3, y4] [ax_i x2] rfl ?_
  refine ax_sip (pc' := 42) ⟨_, rfl⟩ (by decide) rfl ?_
  refine ax_if2 (p1 := 112) (p2 := 45) ⟨_, rfl⟩ (by decide) rfl hx2 (by decide) (fun hc => ?_) (fun hc => ?_)
  · have h := h.1 hc
    exact h
  · have h := h.2 (Int.not_le.mp hc)
    refine ax_mv 1 46 [some (.ref r), some (ax_i x1), some (ax_i x2), y3, y4] [.ref r] rfl ?_
    refine ax_gI (kI := 6) (pc' := 49) ⟨_, rfl⟩ fl_10_49 (az_e 1 rfl) rfl rfl rfl ?_
    refine ax_sti (i := 0) (k := 3) (n := 1) (pc' := 50) (L' := [some (.ref r), some (ax_i x1), some (ax_i x2), some (ax_i (V 600 6)), y4]) ⟨_, rfl⟩ rfl rfl rfl (Nat.le_of_ble_eq_true rfl) rfl rfl ?_
    refine ax_mv 1 51 [some (.ref r), some (ax_i x1), some (ax_i x2), some (ax_i (V 600 6)), y4] [.ref r] rfl ?_
    refine ax_callI (pc' := 54) ⟨_, rfl⟩ ml_10_90 (rest := []) rfl (fun ss hs => ⟨_, _, (az_e 1 rfl) ss hs⟩) (Nat.le_of_ble_eq_true rfl) rfl rfl h (fun r1 V1 hg1 hr1 h => ?_)
    refine ax_sti (i := 0) (k := 4) (n := 2) (pc' := 56) (L' := [some (.ref r), some (ax_i x1), some (ax_i x2), some (ax_i (V 600 6)), some (ax_i r1)]) ⟨_, rfl⟩ rfl rfl rfl (Nat.le_of_ble_eq_true rfl) rfl rfl ?_
    refine ax_mv 1 57 [some (.ref r), some (ax_i x1), some (ax_i x2), some (ax_i (V 600 6)), some (ax_i r1)] [.ref r] rfl ?_
    refine ax_gR (v := .ref (B + 47)) (pc' := 60) ⟨_, rfl⟩ fl_10_40 (az_e 1 rfl) rfl rfl ?_
    refine ax_gI (kI := 1) (pc' := 63) ⟨_, rfl⟩ fl_10_160 (az_b 47 rfl) rfl rfl rfl ?_
    refine ax_sip (pc' := 66) ⟨_, rfl⟩ (by decide) rfl ?_
    refine ax_if2 (p1 := 73) (p2 := 69) ⟨_, rfl⟩ (by decide) rfl (hg1 _ _) (by decide) (fun hc => ?_) (fun hc => ?_)
    · have h := h.1 hc
      refine ax_mv 1 74 [some (.ref r), some (ax_i x1), some (ax_i x2), some (ax_i (V 600 6)), some (ax_i r1)] [.ref r] rfl ?_
      refine ax_gR (v := .ref (B + 47)) (pc' := 77) ⟨_, rfl⟩ fl_10_40 (az_e 1 rfl) rfl rfl ?_
      refine ax_mv 3 81 [some (.ref r), some (ax_i x1), some (ax_i x2), some (ax_i (V 600 6)), some (ax_i r1)] [ax_i (V 600 6), ax_i r1, ax_i x1, .ref (B + 47)] rfl ?_
      refine ax_callN (pc' := 84) ⟨_, rfl⟩ ml_10_163 (rest := []) rfl (fun ss hs => ⟨_, _, (az_b 47 rfl) ss hs⟩) (Nat.le_of_ble_eq_true rfl) rfl rfl h (fun V2 hg2 h => ?_)
      refine ax_mv 1 85 [some (.ref r), some (ax_i x1), some (ax_i x2), some (ax_i (V 600 6)), some (ax_i r1)] [.ref r] rfl ?_
      refine ax_callI (pc' := 88) ⟨_, rfl⟩ ml_10_56 (rest := []) rfl (fun ss hs => ⟨_, _, (az_e 1 rfl) ss hs⟩) (Nat.le_of_ble_eq_true rfl) rfl rfl h (fun r3 V3 hg3 hr3 h => ?_)
      refine ax_bip (pc' := 90) ⟨_, rfl⟩ (by decide) rfl ?_
      refine ax_if2 (p1 := 96) (p2 := 93) ⟨_, rfl⟩ (by decide) rfl hr3 (by decide) (fun hc => ?_) (fun hc => ?_)
      · have h := h.1 hc
        refine ax_mv 2 98 [some (.ref r), some (ax_i x1), some (ax_i x2), some (ax_i (V 600 6)), some (ax_i r1)] [.ref r, .ref r] rfl ?_
        refine ax_gI (kI := 6) (pc' := 101) ⟨_, rfl⟩ fl_10_49 (az_e 1 rfl) rfl rfl rfl ?_
        refine ax_mv 1 102 [some (.ref r), some (ax_i x1), some (ax_i x2), some (ax_i (V 600 6)), some (ax_i r1)] [ax_i 1, ax_i (V3 600 6), .ref r] rfl ?_
        refine ax_add (pc' := 103) ⟨_, rfl⟩ rfl ?_
        obtain ⟨o1, h⟩ := h
        obtain ⟨V4, eV4⟩ : ∃ W9 : ax_V, W9 = ax_u V3 600 6 ((V3 600 6) + 1) := ⟨_, rfl⟩
        have h := h V4 eV4
        have hg4 : ax_g V4 := eV4 ▸ ax_u_g hg3 o1
        refine ax_pI (kI := 6) (pc' := 106) ⟨_, rfl⟩ fl_10_49 az_ok (az_e 1 rfl) rfl rfl rfl rfl eV4 rfl ?_
        refine ax_inc (x := x2) (pc' := 109) (L' := [some (.ref r), some (ax_i x1), some (ax_i (x2 + 1)), some (ax_i (V 600 6)), some (ax_i r1)]) ⟨_, rfl⟩ rfl rfl rfl rfl ?_
        refine ax_mv 1 38 [some (.ref r), some (ax_i x1), some (ax_i (x2 + 1)), some (ax_i (V 600 6)), some (ax_i r1)] [] rfl ?_
        exact h
      · have h := h.2 hc
        refine ax_mv 1 112 [some (.ref r), some (ax_i x1), some (ax_i x2), some (ax_i (V 600 6)), some (ax_i r1)] [] rfl ?_
        exact h
    · have h := h.2 (Int.not_lt.mp hc)
      refine ax_mv 1 70 [some (.ref r), some (ax_i x1), some (ax_i x2), some (ax_i (V 600 6)), some (ax_i r1)] [.ref r] rfl ?_
      refine ax_callN (pc' := 73) ⟨_, rfl⟩ ml_10_84 (rest := []) rfl (fun ss hs => ⟨_, _, (az_e 1 rfl) ss hs⟩) (Nat.le_of_ble_eq_true rfl) rfl rfl h (fun V5 hg5 h => ?_)
      refine ax_mv 1 74 [some (.ref r), some (ax_i x1), some (ax_i x2), some (ax_i (V 600 6)), some (ax_i r1)] [.ref r] rfl ?_
      refine ax_gR (v := .ref (B + 47)) (pc' := 77) ⟨_, rfl⟩ fl_10_40 (az_e 1 rfl) rfl rfl ?_
      refine ax_mv 3 81 [some (.ref r), some (ax_i x1), some (ax_i x2), some (ax_i (V 600 6)), some (ax_i r1)] [ax_i (V 600 6), ax_i r1, ax_i x1, .ref (B + 47)] rfl ?_
      refine ax_callN (pc' := 84) ⟨_, rfl⟩ ml_10_163 (rest := []) rfl (fun ss hs => ⟨_, _, (az_b 47 rfl) ss hs⟩) (Nat.le_of_ble_eq_true rfl) rfl rfl h (fun V6 hg6 h => ?_)
      refine ax_mv 1 85 [some (.ref r), some (ax_i x1), some (ax_i x2), some (ax_i (V 600 6)), some (ax_i r1)] [.ref r] rfl ?_
      refine ax_callI (pc' := 88) ⟨_, rfl⟩ ml_10_56 (rest := []) rfl (fun ss hs => ⟨_, _, (az_e 1 rfl) ss hs⟩) (Nat.le_of_ble_eq_true rfl) rfl rfl h (fun r7 V7 hg7 hr7 h => ?_)
      refine ax_bip (pc' := 90) ⟨_, rfl⟩ (by decide) rfl ?_
      refine ax_if2 (p1 := 96) (p2 := 93) ⟨_, rfl⟩ (by decide) rfl hr7 (by decide) (fun hc => ?_) (fun hc => ?_)
      · have h := h.1 hc
        refine ax_mv 2 98 [some (.ref r), some (ax_i x1), some (ax_i x2), some (ax_i (V 600 6)), some (ax_i r1)] [.ref r, .ref r] rfl ?_
        refine ax_gI (kI := 6) (pc' := 101) ⟨_, rfl⟩ fl_10_49 (az_e 1 rfl) rfl rfl rfl ?_
        refine ax_mv 1 102 [some (.ref r), some (ax_i x1), some (ax_i x2), some (ax_i (V 600 6)), some (ax_i r1)] [ax_i 1, ax_i (V7 600 6), .ref r] rfl ?_
        refine ax_add (pc' := 103) ⟨_, rfl⟩ rfl ?_
        obtain ⟨o2, h⟩ := h
        obtain ⟨V8, eV8⟩ : ∃ W9 : ax_V, W9 = ax_u V7 600 6 ((V7 600 6) + 1) := ⟨_, rfl⟩
        have h := h V8 eV8
        have hg8 : ax_g V8 := eV8 ▸ ax_u_g hg7 o2
        refine ax_pI (kI := 6) (pc' := 106) ⟨_, rfl⟩ fl_10_49 az_ok (az_e 1 rfl) rfl rfl rfl rfl eV8 rfl ?_
        refine ax_inc (x := x2) (pc' := 109) (L' := [some (.ref r), some (ax_i x1), some (ax_i (x2 + 1)), some (ax_i (V 600 6)), some (ax_i r1)]) ⟨_, rfl⟩ rfl rfl rfl rfl ?_
        refine ax_mv 1 38 [some (.ref r), some (ax_i x1), some (ax_i (x2 + 1)), some (ax_i (V 600 6)), some (ax_i r1)] [] rfl ?_
        exact h
      · have h := h.2 hc
        refine ax_mv 1 112 [some (.ref r), some (ax_i x1), some (ax_i x2), some (ax_i (V 600 6)), some (ax_i r1)] [] rfl ?_
        exact h
set_option maxRecDepth 20000 in
theorem r_Reader_readEquation_112 {B : Nat} {r : Nat} {d : Nat} {V : ax_V} {Φ : ax_V → Prop} {Θ : ax_V → Prop} {x1 : Int} {y2 : Option Value} {y3 : Option Value} {y4 : Option Value} (hg : ax_g V) (hx1 : ax_rg x1) (hy2 : ax_y y2) (hy3 : ax_y y3) (hy4 : ax_y y4) (h : ax_N (az_W B (az_ER B r)) d q_Reader_expect [.ref r, ax_i 61] V (fun V1 => ax_I (az_W B (az_ER B r)) d q_Reader_readX [.ref r] V1 (fun r2 V2 => (0 ≤ x1 ∧ x1 < 350) ∧ (∀ V3, V3 = ax_u V2 550 x1 r2 → (0 ≤ x1 + 1 ∧ x1 + 1 < 351) ∧ (0 ≤ x1 ∧ x1 < 351) ∧ (0 ≤ r2 ∧ r2 < 700) ∧ ax_rg ((V3 548 (x1 + 1)) - (V3 548 x1)) ∧ (∀ V4, V4 = ax_u V3 527 r2 ((V3 548 (x1 + 1)) - (V3 548 x1)) → ax_N (az_W B (az_ER B r)) d q_Reader_expect [.ref r, ax_i 59] V4 (fun V5 => Φ V5) Θ))) Θ) Θ) : k_Reader_readEquation_112 B r d x1 y2 y3 y4 V Φ Θ := by
  refine ax_mv 1 113 [some (.ref r), some (ax_i x1), y2, y3, y4] [.ref r] rfl ?_
  refine ax_bip (pc' := 115) ⟨_, rfl⟩ (by decide) rfl ?_
  refine ax_callN (pc' := 118) ⟨_, rfl⟩ ml_10_70 (rest := []) rfl (fun ss hs => ⟨_, _, (az_e 1 rfl) ss hs⟩) (Nat.le_of_ble_eq_true rfl) rfl rfl h (fun V1 hg1 h => ?_)
  refine ax_mv 1 119 [some (.ref r), some (ax_i x1), y2, y3, y4] [.ref r] rfl ?_
  refine ax_callI (pc' := 122) ⟨_, rfl⟩ ml_10_166 (rest := []) rfl (fun ss hs => ⟨_, _, (az_e 1 rfl) ss hs⟩) (Nat.le_of_ble_eq_true rfl) rfl rfl h (fun r2 V2 hg2 hr2 h => ?_)
  refine ax_sti (i := 0) (k := 2) (n := 1) (pc' := 123) (L' := [some (.ref r), some (ax_i x1), some (ax_i r2), y3, y4]) ⟨_, rfl⟩ rfl rfl rfl (Nat.le_of_ble_eq_true rfl) rfl rfl ?_
  refine ax_mv 1 124 [some (.ref r), some (ax_i x1), some (ax_i r2), y3, y4] [.ref r] rfl ?_
  refine ax_gR (v := .ref (B + 47)) (pc' := 127) ⟨_, rfl⟩ fl_10_40 (az_e 1 rfl) rfl rfl ?_
  refine ax_gR (v := .ref (B + 50)) (pc' := 130) ⟨_, rfl⟩ fl_10_169 (az_b 47 rfl) rfl rfl ?_
  refine ax_mv 2 132 [some (.ref r), some (ax_i x1), some (ax_i r2), y3, y4] [ax_i r2, ax_i x1, .ref (B + 50)] rfl ?_
  obtain ⟨o3, h⟩ := h
  obtain ⟨V3, eV3⟩ : ∃ W9 : ax_V, W9 = ax_u V2 550 x1 r2 := ⟨_, rfl⟩
  have h := h V3 eV3
  have hg3 : ax_g V3 := eV3 ▸ ax_u_g hg2 hr2
  refine ax_ist (n := 350) (pc' := 133) ⟨_, rfl⟩ az_ok (az_b 50 rfl) (by decide) o3 eV3 rfl ?_
  refine ax_mv 1 134 [some (.ref r), some (ax_i x1), some (ax_i r2), y3, y4] [.ref r] rfl ?_
  refine ax_gR (v := .ref (B + 16)) (pc' := 137) ⟨_, rfl⟩ fl_10_35 (az_e 1 rfl) rfl rfl ?_
  refine ax_gR (v := .ref (B + 27)) (pc' := 140) ⟨_, rfl⟩ fl_10_172 (az_b 16 rfl) rfl rfl ?_
  refine ax_mv 2 142 [some (.ref r), some (ax_i x1), some (ax_i r2), y3, y4] [.ref r, ax_i r2, .ref (B + 27)] rfl ?_
  refine ax_gR (v := .ref (B + 47)) (pc' := 145) ⟨_, rfl⟩ fl_10_40 (az_e 1 rfl) rfl rfl ?_
  refine ax_gR (v := .ref (B + 48)) (pc' := 148) ⟨_, rfl⟩ fl_10_174 (az_b 47 rfl) rfl rfl ?_
  refine ax_mv 2 150 [some (.ref r), some (ax_i x1), some (ax_i r2), y3, y4] [ax_i 1, ax_i x1, .ref (B + 48), ax_i r2, .ref (B + 27)] rfl ?_
  refine ax_add (pc' := 151) ⟨_, rfl⟩ rfl ?_
  obtain ⟨o4, h⟩ := h
  refine ax_ild (n := 351) (pc' := 152) ⟨_, rfl⟩ (az_b 48 rfl) (by decide) o4 rfl ?_
  refine ax_mv 1 153 [some (.ref r), some (ax_i x1), some (ax_i r2), y3, y4] [.ref r, ax_i (V3 548 (x1 + 1)), ax_i r2, .ref (B + 27)] rfl ?_
  refine ax_gR (v := .ref (B + 47)) (pc' := 156) ⟨_, rfl⟩ fl_10_40 (az_e 1 rfl) rfl rfl ?_
  refine ax_gR (v := .ref (B + 48)) (pc' := 159) ⟨_, rfl⟩ fl_10_174 (az_b 47 rfl) rfl rfl ?_
  refine ax_mv 1 160 [some (.ref r), some (ax_i x1), some (ax_i r2), y3, y4] [ax_i x1, .ref (B + 48), ax_i (V3 548 (x1 + 1)), ax_i r2, .ref (B + 27)] rfl ?_
  obtain ⟨o5, h⟩ := h
  refine ax_ild (n := 351) (pc' := 161) ⟨_, rfl⟩ (az_b 48 rfl) (by decide) o5 rfl ?_
  refine ax_sub (pc' := 162) ⟨_, rfl⟩ rfl ?_
  obtain ⟨o6, o7, h⟩ := h
  obtain ⟨V4, eV4⟩ : ∃ W9 : ax_V, W9 = ax_u V3 527 r2 ((V3 548 (x1 + 1)) - (V3 548 x1)) := ⟨_, rfl⟩
  have h := h V4 eV4
  have hg4 : ax_g V4 := eV4 ▸ ax_u_g hg3 o7
  refine ax_ist (n := 700) (pc' := 163) ⟨_, rfl⟩ az_ok (az_b 27 rfl) (by decide) o6 eV4 rfl ?_
  refine ax_mv 1 164 [some (.ref r), some (ax_i x1), some (ax_i r2), y3, y4] [.ref r] rfl ?_
  refine ax_bip (pc' := 166) ⟨_, rfl⟩ (by decide) rfl ?_
  refine ax_callN (pc' := 169) ⟨_, rfl⟩ ml_10_70 (rest := []) rfl (fun ss hs => ⟨_, _, (az_e 1 rfl) ss hs⟩) (Nat.le_of_ble_eq_true rfl) rfl rfl h (fun V5 hg5 h => ?_)
  exact ax_nret ⟨_, rfl⟩ rfl hg5 h
set_option maxRecDepth 20000 in
theorem r_Reader_readEquation {B : Nat} {r : Nat} {d : Nat} {V : ax_V} {Φ : ax_V → Prop} {Θ : ax_V → Prop} (hg : ax_g V) (h : ((V 547 0 < 350 → ax_I (az_W B (az_ER B r)) d q_Equations_add [.ref (B + 47), ax_i (V 600 9), ax_i (V 516 0)] V (fun r1 V1 => k_Reader_readEquation_38 B r d r1 0 none none V1 Φ Θ) Θ) ∧ (350 ≤ V 547 0 → ax_N (az_W B (az_ER B r)) d q_Reader_refuse [.ref r] V (fun V2 => ax_I (az_W B (az_ER B r)) d q_Equations_add [.ref (B + 47), ax_i (V2 600 9), ax_i (V2 516 0)] V2 (fun r3 V3 => k_Reader_readEquation_38 B r d r3 0 none none V3 Φ Θ) Θ) Θ))) : ax_N (az_W B (az_ER B r)) (d + 1) q_Reader_readEquation [.ref r] V Φ Θ := by
  refine ax_T.of (M := m_Reader_readEquation) rfl (Nat.le_of_ble_eq_true rfl) ?_
  refine ax_mv 0 0 [some (.ref r), none, none, none, none] [] rfl ?_
  refine ax_mv 1 1 [some (.ref r), none, none, none, none] [.ref r] rfl ?_
  refine ax_gR (v := .ref (B + 47)) (pc' := 4) ⟨_, rfl⟩ fl_10_40 (az_e 1 rfl) rfl rfl ?_
  refine ax_gI (kI := 0) (pc' := 7) ⟨_, rfl⟩ fl_10_149 (az_b 47 rfl) rfl rfl rfl ?_
  refine ax_sip (pc' := 10) ⟨_, rfl⟩ (by decide) rfl ?_
  refine ax_if2 (p1 := 17) (p2 := 13) ⟨_, rfl⟩ (by decide) rfl (hg _ _) (by decide) (fun hc => ?_) (fun hc => ?_)
  · have h := h.1 hc
    refine ax_mv 1 18 [some (.ref r), none, none, none, none] [.ref r] rfl ?_
    refine ax_gR (v := .ref (B + 47)) (pc' := 21) ⟨_, rfl⟩ fl_10_40 (az_e 1 rfl) rfl rfl ?_
    refine ax_mv 1 22 [some (.ref r), none, none, none, none] [.ref r, .ref (B + 47)] rfl ?_
    refine ax_gI (kI := 9) (pc' := 25) ⟨_, rfl⟩ fl_10_15 (az_e 1 rfl) rfl rfl rfl ?_
    refine ax_mv 1 26 [some (.ref r), none, none, none, none] [.ref r, ax_i (V 600 9), .ref (B + 47)] rfl ?_
    refine ax_gR (v := .ref (B + 16)) (pc' := 29) ⟨_, rfl⟩ fl_10_35 (az_e 1 rfl) rfl rfl ?_
    refine ax_gI (kI := 0) (pc' := 32) ⟨_, rfl⟩ fl_10_154 (az_b 16 rfl) rfl rfl rfl ?_
    refine ax_callI (pc' := 35) ⟨_, rfl⟩ ml_10_157 (rest := []) rfl (fun ss hs => ⟨_, _, (az_b 47 rfl) ss hs⟩) (Nat.le_of_ble_eq_true rfl) rfl rfl h (fun r1 V1 hg1 hr1 h => ?_)
    refine ax_sti (i := 0) (k := 1) (n := 1) (pc' := 36) (L' := [some (.ref r), some (ax_i r1), none, none, none]) ⟨_, rfl⟩ rfl rfl rfl (Nat.le_of_ble_eq_true rfl) rfl rfl ?_
    refine ax_mv 1 37 [some (.ref r), some (ax_i r1), none, none, none] [ax_i 0] rfl ?_
    refine ax_sti (i := 0) (k := 2) (n := 1) (pc' := 38) (L' := [some (.ref r), some (ax_i r1), some (ax_i 0), none, none]) ⟨_, rfl⟩ rfl rfl rfl (Nat.le_of_ble_eq_true rfl) rfl rfl ?_
    exact h
  · have h := h.2 (Int.not_lt.mp hc)
    refine ax_mv 1 14 [some (.ref r), none, none, none, none] [.ref r] rfl ?_
    refine ax_callN (pc' := 17) ⟨_, rfl⟩ ml_10_84 (rest := []) rfl (fun ss hs => ⟨_, _, (az_e 1 rfl) ss hs⟩) (Nat.le_of_ble_eq_true rfl) rfl rfl h (fun V2 hg2 h => ?_)
    refine ax_mv 1 18 [some (.ref r), none, none, none, none] [.ref r] rfl ?_
    refine ax_gR (v := .ref (B + 47)) (pc' := 21) ⟨_, rfl⟩ fl_10_40 (az_e 1 rfl) rfl rfl ?_
    refine ax_mv 1 22 [some (.ref r), none, none, none, none] [.ref r, .ref (B + 47)] rfl ?_
    refine ax_gI (kI := 9) (pc' := 25) ⟨_, rfl⟩ fl_10_15 (az_e 1 rfl) rfl rfl rfl ?_
    refine ax_mv 1 26 [some (.ref r), none, none, none, none] [.ref r, ax_i (V2 600 9), .ref (B + 47)] rfl ?_
    refine ax_gR (v := .ref (B + 16)) (pc' := 29) ⟨_, rfl⟩ fl_10_35 (az_e 1 rfl) rfl rfl ?_
    refine ax_gI (kI := 0) (pc' := 32) ⟨_, rfl⟩ fl_10_154 (az_b 16 rfl) rfl rfl rfl ?_
    refine ax_callI (pc' := 35) ⟨_, rfl⟩ ml_10_157 (rest := []) rfl (fun ss hs => ⟨_, _, (az_b 47 rfl) ss hs⟩) (Nat.le_of_ble_eq_true rfl) rfl rfl h (fun r3 V3 hg3 hr3 h => ?_)
    refine ax_sti (i := 0) (k := 1) (n := 1) (pc' := 36) (L' := [some (.ref r), some (ax_i r3), none, none, none]) ⟨_, rfl⟩ rfl rfl rfl (Nat.le_of_ble_eq_true rfl) rfl rfl ?_
    refine ax_mv 1 37 [some (.ref r), some (ax_i r3), none, none, none] [ax_i 0] rfl ?_
    refine ax_sti (i := 0) (k := 2) (n := 1) (pc' := 38) (L' := [some (.ref r), some (ax_i r3), some (ax_i 0), none, none]) ⟨_, rfl⟩ rfl rfl rfl (Nat.le_of_ble_eq_true rfl) rfl rfl ?_
    exact h
theorem r_Reader_readX {B : Nat} {r : Nat} {d : Nat} {V : ax_V} {Φ : Int → ax_V → Prop} {Θ : ax_V → Prop} (hg : ax_g V) (h : ax_I (az_W B (az_ER B r)) d q_Reader_readC [.ref r] V (fun r1 V1 => ((V1 600 10 = 0 → ax_I (az_W B (az_ER B r)) d q_Reader_atArrow [.ref r] V1 (fun r2 V2 => ((r2 = 0 → Φ r1 V2) ∧ (¬ r2 = 0 → ax_N (az_W B (az_ER B r)) d q_Reader_deepen [.ref r] V2 (fun V3 => ax_rg ((V3 600 6) + 2) ∧ (∀ V4, V4 = ax_u V3 600 6 ((V3 600 6) + 2) → ax_I (az_W B (az_ER B r)) d q_Reader_readX [.ref r] V4 (fun r5 V5 => ax_rg ((V5 600 11) - 1) ∧ (∀ V6, V6 = ax_u V5 600 11 ((V5 600 11) - 1) → ax_I (az_W B (az_ER B r)) d q_Reader_join [.ref r, ax_i 19, ax_i (V2 600 6), ax_i r1, ax_i r5, ax_i (-1)] V6 (fun r7 V7 => Φ r7 V7) Θ)) Θ)) Θ))) Θ) ∧ (¬ V1 600 10 = 0 → Φ r1 V1))) Θ) : ax_I (az_W B (az_ER B r)) (d + 1) q_Reader_readX [.ref r] V Φ Θ := by
  refine ax_T.of (M := m_Reader_readX) rfl (Nat.le_of_ble_eq_true rfl) ?_
  refine ax_mv 0 0 [some (.ref r), none, none, none] [] rfl ?_
  refine ax_mv 1 1 [some (.ref r), none, none, none] [.ref r] rfl ?_
  refine ax_callI (pc' := 4) ⟨_, rfl⟩ ml_10_242 (rest := []) rfl (fun ss hs => ⟨_, _, (az_e 1 rfl) ss hs⟩) (Nat.le_of_ble_eq_true rfl) rfl rfl h (fun r1 V1 hg1 hr1 h => ?_)
  refine ax_sti (i := 0) (k := 1) (n := 1) (pc' := 5) (L' := [some (.ref r), some (ax_i r1), none, none]) ⟨_, rfl⟩ rfl rfl rfl (Nat.le_of_ble_eq_true rfl) rfl rfl ?_
  refine ax_mv 1 6 [some (.ref r), some (ax_i r1), none, none] [.ref r] rfl ?_
  refine ax_gI (kI := 10) (pc' := 9) ⟨_, rfl⟩ fl_10_199 (az_e 1 rfl) rfl rfl rfl ?_
  refine ax_if (p1 := 19) (p2 := 12) ⟨_, rfl⟩ (by decide) rfl (hg1 _ _) (fun hc => ?_) (fun hc => ?_)
  · have h := h.2 hc
    refine ax_mv 1 20 [some (.ref r), some (ax_i r1), none, none] [ax_i r1] rfl ?_
    exact ax_iret ⟨_, rfl⟩ rfl rfl hr1 hg1 h
  · have h := h.1 (Classical.not_not.mp hc)
    refine ax_mv 1 13 [some (.ref r), some (ax_i r1), none, none] [.ref r] rfl ?_
    refine ax_callI (pc' := 16) ⟨_, rfl⟩ ml_10_245 (rest := []) rfl (fun ss hs => ⟨_, _, (az_e 1 rfl) ss hs⟩) (Nat.le_of_ble_eq_true rfl) rfl rfl h (fun r2 V2 hg2 hr2 h => ?_)
    refine ax_if (p1 := 21) (p2 := 19) ⟨_, rfl⟩ (by decide) rfl hr2 (fun hc => ?_) (fun hc => ?_)
    · have h := h.2 hc
      refine ax_mv 1 22 [some (.ref r), some (ax_i r1), none, none] [.ref r] rfl ?_
      refine ax_gI (kI := 6) (pc' := 25) ⟨_, rfl⟩ fl_10_49 (az_e 1 rfl) rfl rfl rfl ?_
      refine ax_sti (i := 0) (k := 2) (n := 1) (pc' := 26) (L' := [some (.ref r), some (ax_i r1), some (ax_i (V2 600 6)), none]) ⟨_, rfl⟩ rfl rfl rfl (Nat.le_of_ble_eq_true rfl) rfl rfl ?_
      refine ax_mv 1 27 [some (.ref r), some (ax_i r1), some (ax_i (V2 600 6)), none] [.ref r] rfl ?_
      refine ax_callN (pc' := 30) ⟨_, rfl⟩ ml_10_249 (rest := []) rfl (fun ss hs => ⟨_, _, (az_e 1 rfl) ss hs⟩) (Nat.le_of_ble_eq_true rfl) rfl rfl h (fun V3 hg3 h => ?_)
      refine ax_mv 2 32 [some (.ref r), some (ax_i r1), some (ax_i (V2 600 6)), none] [.ref r, .ref r] rfl ?_
      refine ax_gI (kI := 6) (pc' := 35) ⟨_, rfl⟩ fl_10_49 (az_e 1 rfl) rfl rfl rfl ?_
      refine ax_mv 1 36 [some (.ref r), some (ax_i r1), some (ax_i (V2 600 6)), none] [ax_i 2, ax_i (V3 600 6), .ref r] rfl ?_
      refine ax_add (pc' := 37) ⟨_, rfl⟩ rfl ?_
      obtain ⟨o1, h⟩ := h
      obtain ⟨V4, eV4⟩ : ∃ W9 : ax_V, W9 = ax_u V3 600 6 ((V3 600 6) + 2) := ⟨_, rfl⟩
      have h := h V4 eV4
      have hg4 : ax_g V4 := eV4 ▸ ax_u_g hg3 o1
      refine ax_pI (kI := 6) (pc' := 40) ⟨_, rfl⟩ fl_10_49 az_ok (az_e 1 rfl) rfl rfl rfl rfl eV4 rfl ?_
      refine ax_mv 1 41 [some (.ref r), some (ax_i r1), some (ax_i (V2 600 6)), none] [.ref r] rfl ?_
      refine ax_callI (pc' := 44) ⟨_, rfl⟩ ml_10_166 (rest := []) rfl (fun ss hs => ⟨_, _, (az_e 1 rfl) ss hs⟩) (Nat.le_of_ble_eq_true rfl) rfl rfl h (fun r5 V5 hg5 hr5 h => ?_)
      refine ax_sti (i := 0) (k := 3) (n := 1) (pc' := 45) (L' := [some (.ref r), some (ax_i r1), some (ax_i (V2 600 6)), some (ax_i r5)]) ⟨_, rfl⟩ rfl rfl rfl (Nat.le_of_ble_eq_true rfl) rfl rfl ?_
      refine ax_mv 2 47 [some (.ref r), some (ax_i r1), some (ax_i (V2 600 6)), some (ax_i r5)] [.ref r, .ref r] rfl ?_
      refine ax_gI (kI := 11) (pc' := 50) ⟨_, rfl⟩ fl_10_239 (az_e 1 rfl) rfl rfl rfl ?_
      refine ax_mv 1 51 [some (.ref r), some (ax_i r1), some (ax_i (V2 600 6)), some (ax_i r5)] [ax_i 1, ax_i (V5 600 11), .ref r] rfl ?_
      refine ax_sub (pc' := 52) ⟨_, rfl⟩ rfl ?_
      obtain ⟨o2, h⟩ := h
      obtain ⟨V6, eV6⟩ : ∃ W9 : ax_V, W9 = ax_u V5 600 11 ((V5 600 11) - 1) := ⟨_, rfl⟩
      have h := h V6 eV6
      have hg6 : ax_g V6 := eV6 ▸ ax_u_g hg5 o2
      refine ax_pI (kI := 11) (pc' := 55) ⟨_, rfl⟩ fl_10_239 az_ok (az_e 1 rfl) rfl rfl rfl rfl eV6 rfl ?_
      refine ax_mv 1 56 [some (.ref r), some (ax_i r1), some (ax_i (V2 600 6)), some (ax_i r5)] [.ref r] rfl ?_
      refine ax_bip (pc' := 58) ⟨_, rfl⟩ (by decide) rfl ?_
      refine ax_mv 4 62 [some (.ref r), some (ax_i r1), some (ax_i (V2 600 6)), some (ax_i r5)] [ax_i (-1), ax_i r5, ax_i r1, ax_i (V2 600 6), ax_i 19, .ref r] rfl ?_
      refine ax_callI (pc' := 65) ⟨_, rfl⟩ ml_10_252 (rest := []) rfl (fun ss hs => ⟨_, _, (az_e 1 rfl) ss hs⟩) (Nat.le_of_ble_eq_true rfl) rfl rfl h (fun r7 V7 hg7 hr7 h => ?_)
      exact ax_iret ⟨_, rfl⟩ rfl rfl hr7 hg7 h
    · have h := h.1 (Classical.not_not.mp hc)
      refine ax_mv 1 20 [some (.ref r), some (ax_i r1), none, none] [ax_i r1] rfl ?_
      exact ax_iret ⟨_, rfl⟩ rfl rfl hr1 hg2 h
