/-! RULES of the methods of the class: a method each, and each loop of it. PRINTED by wip/gen/rules.py -/
theorem r_Reader_readC {B : Nat} {r : Nat} {d : Nat} {V : ax_V} {Φ : Int → ax_V → Prop} {Θ : ax_V → Prop} (hg : ax_g V) (h : ax_I (az_W B (az_ER B r)) d q_Reader_readRanked [.ref r, ax_i 0] V (fun r1 V1 => ax_I (az_W B (az_ER B r)) d q_Reader_look [.ref r] V1 (fun r2 V2 => ((r2 = 63 → ax_N (az_W B (az_ER B r)) d q_Reader_deepen [.ref r] V2 (fun V3 => ax_rg ((V3 600 6) + 1) ∧ (∀ V4, V4 = ax_u V3 600 6 ((V3 600 6) + 1) → ax_I (az_W B (az_ER B r)) d q_Reader_readC [.ref r] V4 (fun r5 V5 => ax_N (az_W B (az_ER B r)) d q_Reader_expect [.ref r, ax_i 58] V5 (fun V6 => ax_I (az_W B (az_ER B r)) d q_Reader_readC [.ref r] V6 (fun r7 V7 => ax_rg ((V7 600 11) - 1) ∧ (∀ V8, V8 = ax_u V7 600 11 ((V7 600 11) - 1) → ax_I (az_W B (az_ER B r)) d q_Reader_join [.ref r, ax_i 18, ax_i (V2 600 6), ax_i r1, ax_i r5, ax_i r7] V8 (fun r9 V9 => Φ r9 V9) Θ)) Θ) Θ) Θ)) Θ) ∧ (¬ r2 = 63 → Φ r1 V2))) Θ) Θ) : ax_I (az_W B (az_ER B r)) (d + 1) q_Reader_readC [.ref r] V Φ Θ := by
  refine ax_T.of (M := m_Reader_readC) rfl (Nat.le_of_ble_eq_true rfl) ?_
  refine ax_mv 0 0 [some (.ref r), none, none, none, none] [] rfl ?_
  refine ax_mv 2 2 [some (.ref r), none, none, none, none] [ax_i 0, .ref r] rfl ?_
  refine ax_callI (pc' := 5) ⟨_, rfl⟩ ml_10_256 (rest := []) rfl (fun ss hs => ⟨_, _, (az_e 1 rfl) ss hs⟩) (Nat.le_of_ble_eq_true rfl) rfl rfl h (fun r1 V1 hg1 hr1 h => ?_)
  refine ax_sti (i := 0) (k := 1) (n := 1) (pc' := 6) (L' := [some (.ref r), some (ax_i r1), none, none, none]) ⟨_, rfl⟩ rfl rfl rfl (Nat.le_of_ble_eq_true rfl) rfl rfl ?_
  refine ax_mv 1 7 [some (.ref r), some (ax_i r1), none, none, none] [.ref r] rfl ?_
  refine ax_callI (pc' := 10) ⟨_, rfl⟩ ml_10_56 (rest := []) rfl (fun ss hs => ⟨_, _, (az_e 1 rfl) ss hs⟩) (Nat.le_of_ble_eq_true rfl) rfl rfl h (fun r2 V2 hg2 hr2 h => ?_)
  refine ax_bip (pc' := 12) ⟨_, rfl⟩ (by decide) rfl ?_
  refine ax_if2 (p1 := 17) (p2 := 15) ⟨_, rfl⟩ (by decide) rfl hr2 (by decide) (fun hc => ?_) (fun hc => ?_)
  · have h := h.1 hc
    refine ax_mv 1 18 [some (.ref r), some (ax_i r1), none, none, none] [.ref r] rfl ?_
    refine ax_gI (kI := 6) (pc' := 21) ⟨_, rfl⟩ fl_10_49 (az_e 1 rfl) rfl rfl rfl ?_
    refine ax_sti (i := 0) (k := 2) (n := 1) (pc' := 22) (L' := [some (.ref r), some (ax_i r1), some (ax_i (V2 600 6)), none, none]) ⟨_, rfl⟩ rfl rfl rfl (Nat.le_of_ble_eq_true rfl) rfl rfl ?_
    refine ax_mv 1 23 [some (.ref r), some (ax_i r1), some (ax_i (V2 600 6)), none, none] [.ref r] rfl ?_
    refine ax_callN (pc' := 26) ⟨_, rfl⟩ ml_10_249 (rest := []) rfl (fun ss hs => ⟨_, _, (az_e 1 rfl) ss hs⟩) (Nat.le_of_ble_eq_true rfl) rfl rfl h (fun V3 hg3 h => ?_)
    refine ax_mv 2 28 [some (.ref r), some (ax_i r1), some (ax_i (V2 600 6)), none, none] [.ref r, .ref r] rfl ?_
    refine ax_gI (kI := 6) (pc' := 31) ⟨_, rfl⟩ fl_10_49 (az_e 1 rfl) rfl rfl rfl ?_
    refine ax_mv 1 32 [some (.ref r), some (ax_i r1), some (ax_i (V2 600 6)), none, none] [ax_i 1, ax_i (V3 600 6), .ref r] rfl ?_
    refine ax_add (pc' := 33) ⟨_, rfl⟩ rfl ?_
    obtain ⟨o1, h⟩ := h
    obtain ⟨V4, eV4⟩ : ∃ W9 : ax_V, W9 = ax_u V3 600 6 ((V3 600 6) + 1) := ⟨_, rfl⟩
    have h := h V4 eV4
    have hg4 : ax_g V4 := eV4 ▸ ax_u_g hg3 o1
    refine ax_pI (kI := 6) (pc' := 36) ⟨_, rfl⟩ fl_10_49 az_ok (az_e 1 rfl) rfl rfl rfl rfl eV4 rfl ?_
    refine ax_mv 1 37 [some (.ref r), some (ax_i r1), some (ax_i (V2 600 6)), none, none] [.ref r] rfl ?_
    refine ax_callI (pc' := 40) ⟨_, rfl⟩ ml_10_242 (rest := []) rfl (fun ss hs => ⟨_, _, (az_e 1 rfl) ss hs⟩) (Nat.le_of_ble_eq_true rfl) rfl rfl h (fun r5 V5 hg5 hr5 h => ?_)
    refine ax_sti (i := 0) (k := 3) (n := 1) (pc' := 41) (L' := [some (.ref r), some (ax_i r1), some (ax_i (V2 600 6)), some (ax_i r5), none]) ⟨_, rfl⟩ rfl rfl rfl (Nat.le_of_ble_eq_true rfl) rfl rfl ?_
    refine ax_mv 1 42 [some (.ref r), some (ax_i r1), some (ax_i (V2 600 6)), some (ax_i r5), none] [.ref r] rfl ?_
    refine ax_bip (pc' := 44) ⟨_, rfl⟩ (by decide) rfl ?_
    refine ax_callN (pc' := 47) ⟨_, rfl⟩ ml_10_70 (rest := []) rfl (fun ss hs => ⟨_, _, (az_e 1 rfl) ss hs⟩) (Nat.le_of_ble_eq_true rfl) rfl rfl h (fun V6 hg6 h => ?_)
    refine ax_mv 1 48 [some (.ref r), some (ax_i r1), some (ax_i (V2 600 6)), some (ax_i r5), none] [.ref r] rfl ?_
    refine ax_callI (pc' := 51) ⟨_, rfl⟩ ml_10_242 (rest := []) rfl (fun ss hs => ⟨_, _, (az_e 1 rfl) ss hs⟩) (Nat.le_of_ble_eq_true rfl) rfl rfl h (fun r7 V7 hg7 hr7 h => ?_)
    refine ax_sti (i := 0) (k := 4) (n := 2) (pc' := 53) (L' := [some (.ref r), some (ax_i r1), some (ax_i (V2 600 6)), some (ax_i r5), some (ax_i r7)]) ⟨_, rfl⟩ rfl rfl rfl (Nat.le_of_ble_eq_true rfl) rfl rfl ?_
    refine ax_mv 2 55 [some (.ref r), some (ax_i r1), some (ax_i (V2 600 6)), some (ax_i r5), some (ax_i r7)] [.ref r, .ref r] rfl ?_
    refine ax_gI (kI := 11) (pc' := 58) ⟨_, rfl⟩ fl_10_239 (az_e 1 rfl) rfl rfl rfl ?_
    refine ax_mv 1 59 [some (.ref r), some (ax_i r1), some (ax_i (V2 600 6)), some (ax_i r5), some (ax_i r7)] [ax_i 1, ax_i (V7 600 11), .ref r] rfl ?_
    refine ax_sub (pc' := 60) ⟨_, rfl⟩ rfl ?_
    obtain ⟨o2, h⟩ := h
    obtain ⟨V8, eV8⟩ : ∃ W9 : ax_V, W9 = ax_u V7 600 11 ((V7 600 11) - 1) := ⟨_, rfl⟩
    have h := h V8 eV8
    have hg8 : ax_g V8 := eV8 ▸ ax_u_g hg7 o2
    refine ax_pI (kI := 11) (pc' := 63) ⟨_, rfl⟩ fl_10_239 az_ok (az_e 1 rfl) rfl rfl rfl rfl eV8 rfl ?_
    refine ax_mv 1 64 [some (.ref r), some (ax_i r1), some (ax_i (V2 600 6)), some (ax_i r5), some (ax_i r7)] [.ref r] rfl ?_
    refine ax_bip (pc' := 66) ⟨_, rfl⟩ (by decide) rfl ?_
    refine ax_mv 4 71 [some (.ref r), some (ax_i r1), some (ax_i (V2 600 6)), some (ax_i r5), some (ax_i r7)] [ax_i r7, ax_i r5, ax_i r1, ax_i (V2 600 6), ax_i 18, .ref r] rfl ?_
    refine ax_callI (pc' := 74) ⟨_, rfl⟩ ml_10_252 (rest := []) rfl (fun ss hs => ⟨_, _, (az_e 1 rfl) ss hs⟩) (Nat.le_of_ble_eq_true rfl) rfl rfl h (fun r9 V9 hg9 hr9 h => ?_)
    exact ax_iret ⟨_, rfl⟩ rfl rfl hr9 hg9 h
  · have h := h.2 hc
    refine ax_mv 1 16 [some (.ref r), some (ax_i r1), none, none, none] [ax_i r1] rfl ?_
    exact ax_iret ⟨_, rfl⟩ rfl rfl hr1 hg2 h
abbrev k_Reader_readRanked_14 (B : Nat) (r : Nat) (d : Nat) (x1 : Int) (x2 : Int) (x3 : Int) (x4 : Int) (y5 : Option Value) (y6 : Option Value) (y7 : Option Value) (y8 : Option Value) (V : ax_V) (Φ : Int → ax_V → Prop) (Θ : ax_V → Prop) : Prop := ax_R (az_W B (az_ER B r)) ax_t d m_Reader_readRanked 14 [some (.ref r), some (ax_i x1), some (ax_i x2), some (ax_i x3), some (ax_i x4), y5, y6, y7, y8] [] V (ax_Ir Φ) Θ
set_option maxRecDepth 20000 in
theorem r_Reader_readRanked_14 {B : Nat} {r : Nat} {d : Nat} {V : ax_V} {Φ : Int → ax_V → Prop} {Θ : ax_V → Prop} {x1 : Int} {x2 : Int} {x3 : Int} {x4 : Int} {y5 : Option Value} {y6 : Option Value} {y7 : Option Value} {y8 : Option Value} (hg : ax_g V) (hx1 : ax_rg x1) (hx2 : ax_rg x2) (hx3 : ax_rg x3) (hx4 : ax_rg x4) (hy5 : ax_y y5) (hy6 : ax_y y6) (hy7 : ax_y y7) (hy8 : ax_y y8) (h : ((700 ≤ x4 → Φ x2 V) ∧ (x4 < 700 → ax_I (az_W B (az_ER B r)) d q_Reader_operatorHere [.ref r] V (fun r1 V1 => ax_I (az_W B (az_ER B r)) d q_Reader_rankOf [ax_i r1] V1 (fun r2 V2 => ((r1 = -1 → Φ x2 V2) ∧ (¬ r1 = -1 → ((r2 < x1 → Φ x2 V2) ∧ (x1 ≤ r2 → ((r2 ≤ x3 → ax_rg ((V2 600 6) + 1) ∧ (∀ V3, V3 = ax_u V2 600 6 ((V2 600 6) + 1) → ax_I (az_W B (az_ER B r)) d q_Reader_readRanked [.ref r, ax_i (r2 + 1)] V3 (fun r4 V4 => ax_I (az_W B (az_ER B r)) d q_Reader_join [.ref r, ax_i r1, ax_i (V2 600 6), ax_i x2, ax_i r4, ax_i (-1)] V4 (fun r5 V5 => ((r2 = 2 → k_Reader_readRanked_14 B r d x1 r5 1 (x4 + 1) (some (ax_i r1)) (some (ax_i r2)) (some (ax_i (V2 600 6))) (some (ax_i r4)) V5 Φ Θ) ∧ (¬ r2 = 2 → k_Reader_readRanked_14 B r d x1 r5 r2 (x4 + 1) (some (ax_i r1)) (some (ax_i r2)) (some (ax_i (V2 600 6))) (some (ax_i r4)) V5 Φ Θ))) Θ) Θ)) ∧ (x3 < r2 → Φ x2 V2))))))) (fun _ => False)) Θ))) : k_Reader_readRanked_14 B r d x1 x2 x3 x4 y5 y6 y7 y8 V Φ Θ := by
  refine ax_mv 1 16 [some (.ref r), some (ax_i x1), some (ax_i x2), some (ax_i x3), some (ax_i x4), y5, y6, y7, y8] [ax_i x4] rfl ?_
  refine ax_sip (pc' := 19) ⟨_, rfl⟩ (by decide) rfl ?_
  refine ax_if2 (p1 := 114) (p2 := 22) ⟨_, rfl⟩ (by decide) rfl hx4 (by decide) (fun hc => ?_) (fun hc => ?_)
  · have h := h.1 hc
    refine ax_mv 1 115 [some (.ref r), some (ax_i x1), some (ax_i x2), some (ax_i x3), some (ax_i x4), y5, y6, y7, y8] [ax_i x2] rfl ?_
    exact ax_iret ⟨_, rfl⟩ rfl rfl hx2 hg h
  · have h := h.2 (Int.not_le.mp hc)
    refine ax_mv 1 23 [some (.ref r), some (ax_i x1), some (ax_i x2), some (ax_i x3), some (ax_i x4), y5, y6, y7, y8] [.ref r] rfl ?_
    refine ax_callI (pc' := 26) ⟨_, rfl⟩ ml_10_265 (rest := []) rfl (fun ss hs => ⟨_, _, (az_e 1 rfl) ss hs⟩) (Nat.le_of_ble_eq_true rfl) rfl rfl h (fun r1 V1 hg1 hr1 h => ?_)
    refine ax_sti (i := 0) (k := 5) (n := 2) (pc' := 28) (L' := [some (.ref r), some (ax_i x1), some (ax_i x2), some (ax_i x3), some (ax_i x4), some (ax_i r1), y6, y7, y8]) ⟨_, rfl⟩ rfl rfl rfl (Nat.le_of_ble_eq_true rfl) rfl rfl ?_
    refine ax_mv 1 30 [some (.ref r), some (ax_i x1), some (ax_i x2), some (ax_i x3), some (ax_i x4), some (ax_i r1), y6, y7, y8] [ax_i r1] rfl ?_
    refine ax_callS (pc' := 33) ⟨_, rfl⟩ ml_10_268 (Nat.le_of_ble_eq_true rfl) (Nat.le_of_ble_eq_true rfl) rfl h (fun r2 V2 hg2 hr2 h => ?_)
    refine ax_mv 0 33 [some (.ref r), some (ax_i x1), some (ax_i x2), some (ax_i x3), some (ax_i x4), some (ax_i r1), y6, y7, y8] [ax_i r2] rfl ?_
    refine ax_sti (i := 0) (k := 6) (n := 2) (pc' := 35) (L' := [some (.ref r), some (ax_i x1), some (ax_i x2), some (ax_i x3), some (ax_i x4), some (ax_i r1), some (ax_i r2), y7, y8]) ⟨_, rfl⟩ rfl rfl rfl (Nat.le_of_ble_eq_true rfl) rfl rfl ?_
    refine ax_mv 2 38 [some (.ref r), some (ax_i x1), some (ax_i x2), some (ax_i x3), some (ax_i x4), some (ax_i r1), some (ax_i r2), y7, y8] [ax_i (-1), ax_i r1] rfl ?_
    refine ax_if2 (p1 := 114) (p2 := 41) ⟨_, rfl⟩ (by decide) rfl hr1 (by decide) (fun hc => ?_) (fun hc => ?_)
    · have h := h.1 hc
      refine ax_mv 1 115 [some (.ref r), some (ax_i x1), some (ax_i x2), some (ax_i x3), some (ax_i x4), some (ax_i r1), some (ax_i r2), y7, y8] [ax_i x2] rfl ?_
      exact ax_iret ⟨_, rfl⟩ rfl rfl hx2 hg2 h
    · have h := h.2 hc
      refine ax_mv 2 44 [some (.ref r), some (ax_i x1), some (ax_i x2), some (ax_i x3), some (ax_i x4), some (ax_i r1), some (ax_i r2), y7, y8] [ax_i x1, ax_i r2] rfl ?_
      refine ax_if2 (p1 := 114) (p2 := 47) ⟨_, rfl⟩ (by decide) rfl hr2 hx1 (fun hc => ?_) (fun hc => ?_)
      · have h := h.1 hc
        refine ax_mv 1 115 [some (.ref r), some (ax_i x1), some (ax_i x2), some (ax_i x3), some (ax_i x4), some (ax_i r1), some (ax_i r2), y7, y8] [ax_i x2] rfl ?_
        exact ax_iret ⟨_, rfl⟩ rfl rfl hx2 hg2 h
      · have h := h.2 (Int.not_lt.mp hc)
        refine ax_mv 2 50 [some (.ref r), some (ax_i x1), some (ax_i x2), some (ax_i x3), some (ax_i x4), some (ax_i r1), some (ax_i r2), y7, y8] [ax_i x3, ax_i r2] rfl ?_
        refine ax_if2 (p1 := 56) (p2 := 53) ⟨_, rfl⟩ (by decide) rfl hr2 hx3 (fun hc => ?_) (fun hc => ?_)
        · have h := h.1 hc
          refine ax_mv 1 57 [some (.ref r), some (ax_i x1), some (ax_i x2), some (ax_i x3), some (ax_i x4), some (ax_i r1), some (ax_i r2), y7, y8] [.ref r] rfl ?_
          refine ax_gI (kI := 6) (pc' := 60) ⟨_, rfl⟩ fl_10_49 (az_e 1 rfl) rfl rfl rfl ?_
          refine ax_sti (i := 0) (k := 7) (n := 2) (pc' := 62) (L' := [some (.ref r), some (ax_i x1), some (ax_i x2), some (ax_i x3), some (ax_i x4), some (ax_i r1), some (ax_i r2), some (ax_i (V2 600 6)), y8]) ⟨_, rfl⟩ rfl rfl rfl (Nat.le_of_ble_eq_true rfl) rfl rfl ?_
          refine ax_mv 2 64 [some (.ref r), some (ax_i x1), some (ax_i x2), some (ax_i x3), some (ax_i x4), some (ax_i r1), some (ax_i r2), some (ax_i (V2 600 6)), y8] [.ref r, .ref r] rfl ?_
          refine ax_gI (kI := 6) (pc' := 67) ⟨_, rfl⟩ fl_10_49 (az_e 1 rfl) rfl rfl rfl ?_
          refine ax_mv 1 68 [some (.ref r), some (ax_i x1), some (ax_i x2), some (ax_i x3), some (ax_i x4), some (ax_i r1), some (ax_i r2), some (ax_i (V2 600 6)), y8] [ax_i 1, ax_i (V2 600 6), .ref r] rfl ?_
          refine ax_add (pc' := 69) ⟨_, rfl⟩ rfl ?_
          obtain ⟨o1, h⟩ := h
          obtain ⟨V3, eV3⟩ : ∃ W9 : ax_V, W9 = ax_u V2 600 6 ((V2 600 6) + 1) := ⟨_, rfl⟩
          have h := h V3 eV3
          have hg3 : ax_g V3 := eV3 ▸ ax_u_g hg2 o1
          refine ax_pI (kI := 6) (pc' := 72) ⟨_, rfl⟩ fl_10_49 az_ok (az_e 1 rfl) rfl rfl rfl rfl eV3 rfl ?_
          refine ax_mv 3 76 [some (.ref r), some (ax_i x1), some (ax_i x2), some (ax_i x3), some (ax_i x4), some (ax_i r1), some (ax_i r2), some (ax_i (V2 600 6)), y8] [ax_i 1, ax_i r2, .ref r] rfl ?_
          refine ax_add (pc' := 77) ⟨_, rfl⟩ rfl ?_
          refine ax_callI (pc' := 80) ⟨_, rfl⟩ ml_10_256 (rest := []) rfl (fun ss hs => ⟨_, _, (az_e 1 rfl) ss hs⟩) (Nat.le_of_ble_eq_true rfl) rfl rfl h (fun r4 V4 hg4 hr4 h => ?_)
          refine ax_sti (i := 0) (k := 8) (n := 2) (pc' := 82) (L' := [some (.ref r), some (ax_i x1), some (ax_i x2), some (ax_i x3), some (ax_i x4), some (ax_i r1), some (ax_i r2), some (ax_i (V2 600 6)), some (ax_i r4)]) ⟨_, rfl⟩ rfl rfl rfl (Nat.le_of_ble_eq_true rfl) rfl rfl ?_
          refine ax_mv 6 91 [some (.ref r), some (ax_i x1), some (ax_i x2), some (ax_i x3), some (ax_i x4), some (ax_i r1), some (ax_i r2), some (ax_i (V2 600 6)), some (ax_i r4)] [ax_i (-1), ax_i r4, ax_i x2, ax_i (V2 600 6), ax_i r1, .ref r] rfl ?_
          refine ax_callI (pc' := 94) ⟨_, rfl⟩ ml_10_252 (rest := []) rfl (fun ss hs => ⟨_, _, (az_e 1 rfl) ss hs⟩) (Nat.le_of_ble_eq_true rfl) rfl rfl h (fun r5 V5 hg5 hr5 h => ?_)
          refine ax_sti (i := 0) (k := 2) (n := 1) (pc' := 95) (L' := [some (.ref r), some (ax_i x1), some (ax_i r5), some (ax_i x3), some (ax_i x4), some (ax_i r1), some (ax_i r2), some (ax_i (V2 600 6)), some (ax_i r4)]) ⟨_, rfl⟩ rfl rfl rfl (Nat.le_of_ble_eq_true rfl) rfl rfl ?_
          refine ax_mv 2 98 [some (.ref r), some (ax_i x1), some (ax_i r5), some (ax_i x3), some (ax_i x4), some (ax_i r1), some (ax_i r2), some (ax_i (V2 600 6)), some (ax_i r4)] [ax_i 2, ax_i r2] rfl ?_
          refine ax_if2 (p1 := 105) (p2 := 101) ⟨_, rfl⟩ (by decide) rfl hr2 (by decide) (fun hc => ?_) (fun hc => ?_)
          · have h := h.2 hc
            refine ax_mv 1 107 [some (.ref r), some (ax_i x1), some (ax_i r5), some (ax_i x3), some (ax_i x4), some (ax_i r1), some (ax_i r2), some (ax_i (V2 600 6)), some (ax_i r4)] [ax_i r2] rfl ?_
            refine ax_sti (i := 0) (k := 3) (n := 1) (pc' := 108) (L' := [some (.ref r), some (ax_i x1), some (ax_i r5), some (ax_i r2), some (ax_i x4), some (ax_i r1), some (ax_i r2), some (ax_i (V2 600 6)), some (ax_i r4)]) ⟨_, rfl⟩ rfl rfl rfl (Nat.le_of_ble_eq_true rfl) rfl rfl ?_
            refine ax_inc (x := x4) (pc' := 111) (L' := [some (.ref r), some (ax_i x1), some (ax_i r5), some (ax_i r2), some (ax_i (x4 + 1)), some (ax_i r1), some (ax_i r2), some (ax_i (V2 600 6)), some (ax_i r4)]) ⟨_, rfl⟩ rfl rfl rfl rfl ?_
            refine ax_mv 1 14 [some (.ref r), some (ax_i x1), some (ax_i r5), some (ax_i r2), some (ax_i (x4 + 1)), some (ax_i r1), some (ax_i r2), some (ax_i (V2 600 6)), some (ax_i r4)] [] rfl ?_
            exact h
          · have h := h.1 (Classical.not_not.mp hc)
            refine ax_mv 2 107 [some (.ref r), some (ax_i x1), some (ax_i r5), some (ax_i x3), some (ax_i x4), some (ax_i r1), some (ax_i r2), some (ax_i (V2 600 6)), some (ax_i r4)] [ax_i 1] rfl ?_
            refine ax_sti (i := 0) (k := 3) (n := 1) (pc' := 108) (L' := [some (.ref r), some (ax_i x1), some (ax_i r5), some (ax_i 1), some (ax_i x4), some (ax_i r1), some (ax_i r2), some (ax_i (V2 600 6)), some (ax_i r4)]) ⟨_, rfl⟩ rfl rfl rfl (Nat.le_of_ble_eq_true rfl) rfl rfl ?_
            refine ax_inc (x := x4) (pc' := 111) (L' := [some (.ref r), some (ax_i x1), some (ax_i r5), some (ax_i 1), some (ax_i (x4 + 1)), some (ax_i r1), some (ax_i r2), some (ax_i (V2 600 6)), some (ax_i r4)]) ⟨_, rfl⟩ rfl rfl rfl rfl ?_
            refine ax_mv 1 14 [some (.ref r), some (ax_i x1), some (ax_i r5), some (ax_i 1), some (ax_i (x4 + 1)), some (ax_i r1), some (ax_i r2), some (ax_i (V2 600 6)), some (ax_i r4)] [] rfl ?_
            exact h
        · have h := h.2 (Int.not_le.mp hc)
          refine ax_mv 2 115 [some (.ref r), some (ax_i x1), some (ax_i x2), some (ax_i x3), some (ax_i x4), some (ax_i r1), some (ax_i r2), y7, y8] [ax_i x2] rfl ?_
          exact ax_iret ⟨_, rfl⟩ rfl rfl hx2 hg2 h
set_option maxRecDepth 20000 in
theorem r_Reader_readRanked {B : Nat} {r : Nat} {d : Nat} {V : ax_V} {Φ : Int → ax_V → Prop} {Θ : ax_V → Prop} {x1 : Int} (hg : ax_g V) (hx1 : ax_rg x1) (h : ax_I (az_W B (az_ER B r)) d q_Reader_readK [.ref r] V (fun r1 V1 => ax_I (az_W B (az_ER B r)) d q_Reader_sampled [.ref r, ax_i r1] V1 (fun r2 V2 => k_Reader_readRanked_14 B r d x1 r2 4 0 none none none none V2 Φ Θ) Θ) Θ) : ax_I (az_W B (az_ER B r)) (d + 1) q_Reader_readRanked [.ref r, ax_i x1] V Φ Θ := by
  refine ax_T.of (M := m_Reader_readRanked) rfl (Nat.le_of_ble_eq_true rfl) ?_
  refine ax_mv 0 0 [some (.ref r), some (ax_i x1), none, none, none, none, none, none, none] [] rfl ?_
  refine ax_mv 2 2 [some (.ref r), some (ax_i x1), none, none, none, none, none, none, none] [.ref r, .ref r] rfl ?_
  refine ax_callI (pc' := 5) ⟨_, rfl⟩ ml_10_259 (rest := [.ref r]) rfl (fun ss hs => ⟨_, _, (az_e 1 rfl) ss hs⟩) (Nat.le_of_ble_eq_true rfl) rfl rfl h (fun r1 V1 hg1 hr1 h => ?_)
  refine ax_callI (pc' := 8) ⟨_, rfl⟩ ml_10_262 (rest := []) rfl (fun ss hs => ⟨_, _, (az_e 1 rfl) ss hs⟩) (Nat.le_of_ble_eq_true rfl) rfl rfl h (fun r2 V2 hg2 hr2 h => ?_)
  refine ax_sti (i := 0) (k := 2) (n := 1) (pc' := 9) (L' := [some (.ref r), some (ax_i x1), some (ax_i r2), none, none, none, none, none, none]) ⟨_, rfl⟩ rfl rfl rfl (Nat.le_of_ble_eq_true rfl) rfl rfl ?_
  refine ax_mv 1 10 [some (.ref r), some (ax_i x1), some (ax_i r2), none, none, none, none, none, none] [ax_i 4] rfl ?_
  refine ax_sti (i := 0) (k := 3) (n := 1) (pc' := 11) (L' := [some (.ref r), some (ax_i x1), some (ax_i r2), some (ax_i 4), none, none, none, none, none]) ⟨_, rfl⟩ rfl rfl rfl (Nat.le_of_ble_eq_true rfl) rfl rfl ?_
  refine ax_mv 1 12 [some (.ref r), some (ax_i x1), some (ax_i r2), some (ax_i 4), none, none, none, none, none] [ax_i 0] rfl ?_
  refine ax_sti (i := 0) (k := 4) (n := 2) (pc' := 14) (L' := [some (.ref r), some (ax_i x1), some (ax_i r2), some (ax_i 4), some (ax_i 0), none, none, none, none]) ⟨_, rfl⟩ rfl rfl rfl (Nat.le_of_ble_eq_true rfl) rfl rfl ?_
  exact h
set_option maxRecDepth 20000 in
theorem r_Reader_readK {B : Nat} {r : Nat} {d : Nat} {V : ax_V} {Φ : Int → ax_V → Prop} {Θ : ax_V → Prop} (hg : ax_g V) (h : ax_I (az_W B (az_ER B r)) d q_Reader_look [.ref r] V (fun r1 V1 => ax_I (az_W B (az_ER B r)) d q_Reader_isLetter [ax_i r1] V1 (fun r2 V2 => ((r2 = 0 → ax_I (az_W B (az_ER B r)) d q_Reader_isDigit [ax_i r1] V2 (fun r3 V3 => ((r3 = 0 → ax_I (az_W B (az_ER B r)) d q_Reader_isName [ax_i r1] V3 (fun r4 V4 => ((r4 = 0 → ((r1 = 33 → ax_I (az_W B (az_ER B r)) d q_Reader_readBehind [.ref r, ax_i 5] V4 (fun r5 V5 => Φ r5 V5) Θ) ∧ (r1 = 39 → ax_rg ((V4 600 6) + 1) ∧ (∀ V6, V6 = ax_u V4 600 6 ((V4 600 6) + 1) → ax_I (az_W B (az_ER B r)) d q_Reader_takeLetter [.ref r] V6 (fun r7 V7 => ax_I (az_W B (az_ER B r)) d q_Reader_addPart [.ref r, ax_i 3, ax_i (V 600 6), ax_i ((V 600 6) + 1), ax_i r7] V7 (fun r8 V8 => Φ r8 V8) Θ) Θ)) ∧ (r1 = 40 → ax_I (az_W B (az_ER B r)) d q_Reader_readWithin [.ref r] V4 (fun r9 V9 => Φ r9 V9) Θ) ∧ (r1 = 45 → ax_I (az_W B (az_ER B r)) d q_Reader_readBehind [.ref r, ax_i 4] V4 (fun r10 V10 => Φ r10 V10) Θ) ∧ (r1 = 91 → ax_I (az_W B (az_ER B r)) d q_Reader_readMerge [.ref r] V4 (fun r11 V11 => Φ r11 V11) Θ) ∧ (r1 = 126 → ax_I (az_W B (az_ER B r)) d q_Reader_readBehind [.ref r, ax_i 6] V4 (fun r12 V12 => Φ r12 V12) Θ) ∧ (¬ r1 = 33 → ¬ r1 = 39 → ¬ r1 = 40 → ¬ r1 = 45 → ¬ r1 = 91 → ¬ r1 = 126 → ((r1 = 84 → ax_rg ((V4 600 6) + 1) ∧ (∀ V13, V13 = ax_u V4 600 6 ((V4 600 6) + 1) → ((r1 = 84 → ax_I (az_W B (az_ER B r)) d q_Reader_addPart [.ref r, ax_i 1, ax_i (V 600 6), ax_i (V 600 6), ax_i 1] V13 (fun r15 V15 => Φ r15 V15) Θ) ∧ (¬ r1 = 84 → ax_I (az_W B (az_ER B r)) d q_Reader_addPart [.ref r, ax_i 1, ax_i (V 600 6), ax_i (V 600 6), ax_i 0] V13 (fun r14 V14 => Φ r14 V14) Θ)))) ∧ (¬ r1 = 84 → ((r1 = 85 → ax_rg ((V4 600 6) + 1) ∧ (∀ V16, V16 = ax_u V4 600 6 ((V4 600 6) + 1) → ((r1 = 84 → ax_I (az_W B (az_ER B r)) d q_Reader_addPart [.ref r, ax_i 1, ax_i (V 600 6), ax_i (V 600 6), ax_i 1] V16 (fun r18 V18 => Φ r18 V18) Θ) ∧ (¬ r1 = 84 → ax_I (az_W B (az_ER B r)) d q_Reader_addPart [.ref r, ax_i 1, ax_i (V 600 6), ax_i (V 600 6), ax_i 0] V16 (fun r17 V17 => Φ r17 V17) Θ)))) ∧ (¬ r1 = 85 → ax_N (az_W B (az_ER B r)) d q_Reader_refuse [.ref r] V4 (fun V19 => ax_rg ((V19 600 6) + 1) ∧ (∀ V20, V20 = ax_u V19 600 6 ((V19 600 6) + 1) → ((r1 = 84 → ax_I (az_W B (az_ER B r)) d q_Reader_addPart [.ref r, ax_i 1, ax_i (V 600 6), ax_i (V 600 6), ax_i 1] V20 (fun r22 V22 => Φ r22 V22) Θ) ∧ (¬ r1 = 84 → ax_I (az_W B (az_ER B r)) d q_Reader_addPart [.ref r, ax_i 1, ax_i (V 600 6), ax_i (V 600 6), ax_i 0] V20 (fun r21 V21 => Φ r21 V21) Θ)))) Θ))))))) ∧ (¬ r4 = 0 → ax_I (az_W B (az_ER B r)) d q_Reader_readCall [.ref r] V4 (fun r23 V23 => Φ r23 V23) Θ))) (fun _ => False)) ∧ (¬ r3 = 0 → ax_I (az_W B (az_ER B r)) d q_Reader_takeNumber [.ref r] V3 (fun r24 V24 => ax_I (az_W B (az_ER B r)) d q_Reader_addPart [.ref r, ax_i 0, ax_i (V 600 6), ax_i (V 600 6), ax_i r24] V24 (fun r25 V25 => Φ r25 V25) Θ) Θ))) (fun _ => False)) ∧ (¬ r2 = 0 → ax_I (az_W B (az_ER B r)) d q_Reader_takeLetter [.ref r] V2 (fun r26 V26 => ax_I (az_W B (az_ER B r)) d q_Reader_addPart [.ref r, ax_i 2, ax_i (V 600 6), ax_i (V 600 6), ax_i r26] V26 (fun r27 V27 => Φ r27 V27) Θ) Θ))) (fun _ => False)) Θ) : ax_I (az_W B (az_ER B r)) (d + 1) q_Reader_readK [.ref r] V Φ Θ := by
  refine ax_T.of (M := m_Reader_readK) rfl (Nat.le_of_ble_eq_true rfl) ?_
  refine ax_mv 0 0 [some (.ref r), none, none] [] rfl ?_
  refine ax_mv 1 1 [some (.ref r), none, none] [.ref r] rfl ?_
  refine ax_gI (kI := 6) (pc' := 4) ⟨_, rfl⟩ fl_10_49 (az_e 1 rfl) rfl rfl rfl ?_
  refine ax_sti (i := 0) (k := 1) (n := 1) (pc' := 5) (L' := [some (.ref r), some (ax_i (V 600 6)), none]) ⟨_, rfl⟩ rfl rfl rfl (Nat.le_of_ble_eq_true rfl) rfl rfl ?_
  refine ax_mv 1 6 [some (.ref r), some (ax_i (V 600 6)), none] [.ref r] rfl ?_
  refine ax_callI (pc' := 9) ⟨_, rfl⟩ ml_10_56 (rest := []) rfl (fun ss hs => ⟨_, _, (az_e 1 rfl) ss hs⟩) (Nat.le_of_ble_eq_true rfl) rfl rfl h (fun r1 V1 hg1 hr1 h => ?_)
  refine ax_sti (i := 0) (k := 2) (n := 1) (pc' := 10) (L' := [some (.ref r), some (ax_i (V 600 6)), some (ax_i r1)]) ⟨_, rfl⟩ rfl rfl rfl (Nat.le_of_ble_eq_true rfl) rfl rfl ?_
  refine ax_mv 1 11 [some (.ref r), some (ax_i (V 600 6)), some (ax_i r1)] [ax_i r1] rfl ?_
  refine ax_callS (pc' := 14) ⟨_, rfl⟩ ml_10_60 (Nat.le_of_ble_eq_true rfl) (Nat.le_of_ble_eq_true rfl) rfl h (fun r2 V2 hg2 hr2 h => ?_)
  refine ax_mv 0 14 [some (.ref r), some (ax_i (V 600 6)), some (ax_i r1)] [ax_i r2] rfl ?_
  refine ax_if (p1 := 29) (p2 := 17) ⟨_, rfl⟩ (by decide) rfl hr2 (fun hc => ?_) (fun hc => ?_)
  · have h := h.1 hc
    refine ax_mv 1 30 [some (.ref r), some (ax_i (V 600 6)), some (ax_i r1)] [ax_i r1] rfl ?_
    refine ax_callS (pc' := 33) ⟨_, rfl⟩ ml_10_94 (Nat.le_of_ble_eq_true rfl) (Nat.le_of_ble_eq_true rfl) rfl h (fun r3 V3 hg3 hr3 h => ?_)
    refine ax_mv 0 33 [some (.ref r), some (ax_i (V 600 6)), some (ax_i r1)] [ax_i r3] rfl ?_
    refine ax_if (p1 := 48) (p2 := 36) ⟨_, rfl⟩ (by decide) rfl hr3 (fun hc => ?_) (fun hc => ?_)
    · have h := h.1 hc
      refine ax_mv 1 49 [some (.ref r), some (ax_i (V 600 6)), some (ax_i r1)] [ax_i r1] rfl ?_
      refine ax_callS (pc' := 52) ⟨_, rfl⟩ ml_10_97 (Nat.le_of_ble_eq_true rfl) (Nat.le_of_ble_eq_true rfl) rfl h (fun r4 V4 hg4 hr4 h => ?_)
      refine ax_mv 0 52 [some (.ref r), some (ax_i (V 600 6)), some (ax_i r1)] [ax_i r4] rfl ?_
      refine ax_if (p1 := 60) (p2 := 55) ⟨_, rfl⟩ (by decide) rfl hr4 (fun hc => ?_) (fun hc => ?_)
      · have h := h.1 hc
        refine ax_mv 1 61 [some (.ref r), some (ax_i (V 600 6)), some (ax_i r1)] [ax_i r1] rfl ?_
        have t0 : (r1 = 33) → ax_R (az_W B (az_ER B r)) ax_t d m_Reader_readK 126 [some (.ref r), some (ax_i (V 600 6)), some (ax_i r1)] [] V4 (ax_Ir Φ) Θ := fun hk => by
          have h := h.1 hk
          refine ax_mv 2 128 [some (.ref r), some (ax_i (V 600 6)), some (ax_i r1)] [ax_i 5, .ref r] rfl ?_
          refine ax_callI (pc' := 131) ⟨_, rfl⟩ ml_10_277 (rest := []) rfl (fun ss hs => ⟨_, _, (az_e 1 rfl) ss hs⟩) (Nat.le_of_ble_eq_true rfl) rfl rfl h (fun r5 V5 hg5 hr5 h => ?_)
          exact ax_iret ⟨_, rfl⟩ rfl rfl hr5 hg5 h
        have t1 : (r1 = 39) → ax_R (az_W B (az_ER B r)) ax_t d m_Reader_readK 149 [some (.ref r), some (ax_i (V 600 6)), some (ax_i r1)] [] V4 (ax_Ir Φ) Θ := fun hk => by
          have h := h.2.1 hk
          refine ax_mv 2 151 [some (.ref r), some (ax_i (V 600 6)), some (ax_i r1)] [.ref r, .ref r] rfl ?_
          refine ax_gI (kI := 6) (pc' := 154) ⟨_, rfl⟩ fl_10_49 (az_e 1 rfl) rfl rfl rfl ?_
          refine ax_mv 1 155 [some (.ref r), some (ax_i (V 600 6)), some (ax_i r1)] [ax_i 1, ax_i (V4 600 6), .ref r] rfl ?_
          refine ax_add (pc' := 156) ⟨_, rfl⟩ rfl ?_
          obtain ⟨o1, h⟩ := h
          obtain ⟨V6, eV6⟩ : ∃ W9 : ax_V, W9 = ax_u V4 600 6 ((V4 600 6) + 1) := ⟨_, rfl⟩
          have h := h V6 eV6
          have hg6 : ax_g V6 := eV6 ▸ ax_u_g hg4 o1
          refine ax_pI (kI := 6) (pc' := 159) ⟨_, rfl⟩ fl_10_49 az_ok (az_e 1 rfl) rfl rfl rfl rfl eV6 rfl ?_
          refine ax_mv 5 164 [some (.ref r), some (ax_i (V 600 6)), some (ax_i r1)] [ax_i 1, ax_i (V 600 6), ax_i (V 600 6), ax_i 3, .ref r] rfl ?_
          refine ax_add (pc' := 165) ⟨_, rfl⟩ rfl ?_
          refine ax_mv 1 166 [some (.ref r), some (ax_i (V 600 6)), some (ax_i r1)] [.ref r, ax_i ((V 600 6) + 1), ax_i (V 600 6), ax_i 3, .ref r] rfl ?_
          refine ax_callI (pc' := 169) ⟨_, rfl⟩ ml_10_90 (rest := [ax_i ((V 600 6) + 1), ax_i (V 600 6), ax_i 3, .ref r]) rfl (fun ss hs => ⟨_, _, (az_e 1 rfl) ss hs⟩) (Nat.le_of_ble_eq_true rfl) rfl rfl h (fun r7 V7 hg7 hr7 h => ?_)
          refine ax_callI (pc' := 172) ⟨_, rfl⟩ ml_10_230 (rest := []) rfl (fun ss hs => ⟨_, _, (az_e 1 rfl) ss hs⟩) (Nat.le_of_ble_eq_true rfl) rfl rfl h (fun r8 V8 hg8 hr8 h => ?_)
          exact ax_iret ⟨_, rfl⟩ rfl rfl hr8 hg8 h
        have t2 : (r1 = 40) → ax_R (az_W B (az_ER B r)) ax_t d m_Reader_readK 139 [some (.ref r), some (ax_i (V 600 6)), some (ax_i r1)] [] V4 (ax_Ir Φ) Θ := fun hk => by
          have h := h.2.2.1 hk
          refine ax_mv 1 140 [some (.ref r), some (ax_i (V 600 6)), some (ax_i r1)] [.ref r] rfl ?_
          refine ax_callI (pc' := 143) ⟨_, rfl⟩ ml_10_280 (rest := []) rfl (fun ss hs => ⟨_, _, (az_e 1 rfl) ss hs⟩) (Nat.le_of_ble_eq_true rfl) rfl rfl h (fun r9 V9 hg9 hr9 h => ?_)
          exact ax_iret ⟨_, rfl⟩ rfl rfl hr9 hg9 h
        have t3 : (r1 = 45) → ax_R (az_W B (az_ER B r)) ax_t d m_Reader_readK 120 [some (.ref r), some (ax_i (V 600 6)), some (ax_i r1)] [] V4 (ax_Ir Φ) Θ := fun hk => by
          have h := h.2.2.2.1 hk
          refine ax_mv 2 122 [some (.ref r), some (ax_i (V 600 6)), some (ax_i r1)] [ax_i 4, .ref r] rfl ?_
          refine ax_callI (pc' := 125) ⟨_, rfl⟩ ml_10_277 (rest := []) rfl (fun ss hs => ⟨_, _, (az_e 1 rfl) ss hs⟩) (Nat.le_of_ble_eq_true rfl) rfl rfl h (fun r10 V10 hg10 hr10 h => ?_)
          exact ax_iret ⟨_, rfl⟩ rfl rfl hr10 hg10 h
        have t4 : (r1 = 91) → ax_R (az_W B (az_ER B r)) ax_t d m_Reader_readK 144 [some (.ref r), some (ax_i (V 600 6)), some (ax_i r1)] [] V4 (ax_Ir Φ) Θ := fun hk => by
          have h := h.2.2.2.2.1 hk
          refine ax_mv 1 145 [some (.ref r), some (ax_i (V 600 6)), some (ax_i r1)] [.ref r] rfl ?_
          refine ax_callI (pc' := 148) ⟨_, rfl⟩ ml_10_283 (rest := []) rfl (fun ss hs => ⟨_, _, (az_e 1 rfl) ss hs⟩) (Nat.le_of_ble_eq_true rfl) rfl rfl h (fun r11 V11 hg11 hr11 h => ?_)
          exact ax_iret ⟨_, rfl⟩ rfl rfl hr11 hg11 h
        have t5 : (r1 = 126) → ax_R (az_W B (az_ER B r)) ax_t d m_Reader_readK 132 [some (.ref r), some (ax_i (V 600 6)), some (ax_i r1)] [] V4 (ax_Ir Φ) Θ := fun hk => by
          have h := h.2.2.2.2.2.1 hk
          refine ax_mv 1 133 [some (.ref r), some (ax_i (V 600 6)), some (ax_i r1)] [.ref r] rfl ?_
          refine ax_bip (pc' := 135) ⟨_, rfl⟩ (by decide) rfl ?_
          refine ax_callI (pc' := 138) ⟨_, rfl⟩ ml_10_277 (rest := []) rfl (fun ss hs => ⟨_, _, (az_e 1 rfl) ss hs⟩) (Nat.le_of_ble_eq_true rfl) rfl rfl h (fun r12 V12 hg12 hr12 h => ?_)
          exact ax_iret ⟨_, rfl⟩ rfl rfl hr12 hg12 h
        have tD : ¬ r1 = 33 → ¬ r1 = 39 → ¬ r1 = 40 → ¬ r1 = 45 → ¬ r1 = 91 → ¬ r1 = 126 → ax_R (az_W B (az_ER B r)) ax_t d m_Reader_readK 173 [some (.ref r), some (ax_i (V 600 6)), some (ax_i r1)] [] V4 (ax_Ir Φ) Θ := fun n0 n1 n2 n3 n4 n5 => by
          have h := h.2.2.2.2.2.2 n0 n1 n2 n3 n4 n5
          refine ax_mv 1 174 [some (.ref r), some (ax_i (V 600 6)), some (ax_i r1)] [ax_i r1] rfl ?_
          refine ax_bip (pc' := 176) ⟨_, rfl⟩ (by decide) rfl ?_
          refine ax_if2 (p1 := 189) (p2 := 179) ⟨_, rfl⟩ (by decide) rfl hr1 (by decide) (fun hc => ?_) (fun hc => ?_)
          · have h := h.1 hc
            refine ax_mv 2 191 [some (.ref r), some (ax_i (V 600 6)), some (ax_i r1)] [.ref r, .ref r] rfl ?_
            refine ax_gI (kI := 6) (pc' := 194) ⟨_, rfl⟩ fl_10_49 (az_e 1 rfl) rfl rfl rfl ?_
            refine ax_mv 1 195 [some (.ref r), some (ax_i (V 600 6)), some (ax_i r1)] [ax_i 1, ax_i (V4 600 6), .ref r] rfl ?_
            refine ax_add (pc' := 196) ⟨_, rfl⟩ rfl ?_
            obtain ⟨o2, h⟩ := h
            obtain ⟨V13, eV13⟩ : ∃ W9 : ax_V, W9 = ax_u V4 600 6 ((V4 600 6) + 1) := ⟨_, rfl⟩
            have h := h V13 eV13
            have hg13 : ax_g V13 := eV13 ▸ ax_u_g hg4 o2
            refine ax_pI (kI := 6) (pc' := 199) ⟨_, rfl⟩ fl_10_49 az_ok (az_e 1 rfl) rfl rfl rfl rfl eV13 rfl ?_
            refine ax_mv 5 204 [some (.ref r), some (ax_i (V 600 6)), some (ax_i r1)] [ax_i r1, ax_i (V 600 6), ax_i (V 600 6), ax_i 1, .ref r] rfl ?_
            refine ax_bip (pc' := 206) ⟨_, rfl⟩ (by decide) rfl ?_
            refine ax_if2 (p1 := 213) (p2 := 209) ⟨_, rfl⟩ (by decide) rfl hr1 (by decide) (fun hc => ?_) (fun hc => ?_)
            · have h := h.2 hc
              refine ax_mv 1 214 [some (.ref r), some (ax_i (V 600 6)), some (ax_i r1)] [ax_i 0, ax_i (V 600 6), ax_i (V 600 6), ax_i 1, .ref r] rfl ?_
              refine ax_callI (pc' := 217) ⟨_, rfl⟩ ml_10_230 (rest := []) rfl (fun ss hs => ⟨_, _, (az_e 1 rfl) ss hs⟩) (Nat.le_of_ble_eq_true rfl) rfl rfl h (fun r14 V14 hg14 hr14 h => ?_)
              exact ax_iret ⟨_, rfl⟩ rfl rfl hr14 hg14 h
            · have h := h.1 (Classical.not_not.mp hc)
              refine ax_mv 2 214 [some (.ref r), some (ax_i (V 600 6)), some (ax_i r1)] [ax_i 1, ax_i (V 600 6), ax_i (V 600 6), ax_i 1, .ref r] rfl ?_
              refine ax_callI (pc' := 217) ⟨_, rfl⟩ ml_10_230 (rest := []) rfl (fun ss hs => ⟨_, _, (az_e 1 rfl) ss hs⟩) (Nat.le_of_ble_eq_true rfl) rfl rfl h (fun r15 V15 hg15 hr15 h => ?_)
              exact ax_iret ⟨_, rfl⟩ rfl rfl hr15 hg15 h
          · have h := h.2 hc
            refine ax_mv 1 180 [some (.ref r), some (ax_i (V 600 6)), some (ax_i r1)] [ax_i r1] rfl ?_
            refine ax_bip (pc' := 182) ⟨_, rfl⟩ (by decide) rfl ?_
            refine ax_if2 (p1 := 189) (p2 := 185) ⟨_, rfl⟩ (by decide) rfl hr1 (by decide) (fun hc => ?_) (fun hc => ?_)
            · have h := h.1 hc
              refine ax_mv 2 191 [some (.ref r), some (ax_i (V 600 6)), some (ax_i r1)] [.ref r, .ref r] rfl ?_
              refine ax_gI (kI := 6) (pc' := 194) ⟨_, rfl⟩ fl_10_49 (az_e 1 rfl) rfl rfl rfl ?_
              refine ax_mv 1 195 [some (.ref r), some (ax_i (V 600 6)), some (ax_i r1)] [ax_i 1, ax_i (V4 600 6), .ref r] rfl ?_
              refine ax_add (pc' := 196) ⟨_, rfl⟩ rfl ?_
              obtain ⟨o3, h⟩ := h
              obtain ⟨V16, eV16⟩ : ∃ W9 : ax_V, W9 = ax_u V4 600 6 ((V4 600 6) + 1) := ⟨_, rfl⟩
              have h := h V16 eV16
              have hg16 : ax_g V16 := eV16 ▸ ax_u_g hg4 o3
              refine ax_pI (kI := 6) (pc' := 199) ⟨_, rfl⟩ fl_10_49 az_ok (az_e 1 rfl) rfl rfl rfl rfl eV16 rfl ?_
              refine ax_mv 5 204 [some (.ref r), some (ax_i (V 600 6)), some (ax_i r1)] [ax_i r1, ax_i (V 600 6), ax_i (V 600 6), ax_i 1, .ref r] rfl ?_
              refine ax_bip (pc' := 206) ⟨_, rfl⟩ (by decide) rfl ?_
              refine ax_if2 (p1 := 213) (p2 := 209) ⟨_, rfl⟩ (by decide) rfl hr1 (by decide) (fun hc => ?_) (fun hc => ?_)
              · have h := h.2 hc
                refine ax_mv 1 214 [some (.ref r), some (ax_i (V 600 6)), some (ax_i r1)] [ax_i 0, ax_i (V 600 6), ax_i (V 600 6), ax_i 1, .ref r] rfl ?_
                refine ax_callI (pc' := 217) ⟨_, rfl⟩ ml_10_230 (rest := []) rfl (fun ss hs => ⟨_, _, (az_e 1 rfl) ss hs⟩) (Nat.le_of_ble_eq_true rfl) rfl rfl h (fun r17 V17 hg17 hr17 h => ?_)
                exact ax_iret ⟨_, rfl⟩ rfl rfl hr17 hg17 h
              · have h := h.1 (Classical.not_not.mp hc)
                refine ax_mv 2 214 [some (.ref r), some (ax_i (V 600 6)), some (ax_i r1)] [ax_i 1, ax_i (V 600 6), ax_i (V 600 6), ax_i 1, .ref r] rfl ?_
                refine ax_callI (pc' := 217) ⟨_, rfl⟩ ml_10_230 (rest := []) rfl (fun ss hs => ⟨_, _, (az_e 1 rfl) ss hs⟩) (Nat.le_of_ble_eq_true rfl) rfl rfl h (fun r18 V18 hg18 hr18 h => ?_)
                exact ax_iret ⟨_, rfl⟩ rfl rfl hr18 hg18 h
            · have h := h.2 hc
              refine ax_mv 1 186 [some (.ref r), some (ax_i (V 600 6)), some (ax_i r1)] [.ref r] rfl ?_
              refine ax_callN (pc' := 189) ⟨_, rfl⟩ ml_10_84 (rest := []) rfl (fun ss hs => ⟨_, _, (az_e 1 rfl) ss hs⟩) (Nat.le_of_ble_eq_true rfl) rfl rfl h (fun V19 hg19 h => ?_)
              refine ax_mv 2 191 [some (.ref r), some (ax_i (V 600 6)), some (ax_i r1)] [.ref r, .ref r] rfl ?_
              refine ax_gI (kI := 6) (pc' := 194) ⟨_, rfl⟩ fl_10_49 (az_e 1 rfl) rfl rfl rfl ?_
              refine ax_mv 1 195 [some (.ref r), some (ax_i (V 600 6)), some (ax_i r1)] [ax_i 1, ax_i (V19 600 6), .ref r] rfl ?_
              refine ax_add (pc' := 196) ⟨_, rfl⟩ rfl ?_
              obtain ⟨o4, h⟩ := h
              obtain ⟨V20, eV20⟩ : ∃ W9 : ax_V, W9 = ax_u V19 600 6 ((V19 600 6) + 1) := ⟨_, rfl⟩
              have h := h V20 eV20
              have hg20 : ax_g V20 := eV20 ▸ ax_u_g hg19 o4
              refine ax_pI (kI := 6) (pc' := 199) ⟨_, rfl⟩ fl_10_49 az_ok (az_e 1 rfl) rfl rfl rfl rfl eV20 rfl ?_
              refine ax_mv 5 204 [some (.ref r), some (ax_i (V 600 6)), some (ax_i r1)] [ax_i r1, ax_i (V 600 6), ax_i (V 600 6), ax_i 1, .ref r] rfl ?_
              refine ax_bip (pc' := 206) ⟨_, rfl⟩ (by decide) rfl ?_
              refine ax_if2 (p1 := 213) (p2 := 209) ⟨_, rfl⟩ (by decide) rfl hr1 (by decide) (fun hc => ?_) (fun hc => ?_)
              · have h := h.2 hc
                refine ax_mv 1 214 [some (.ref r), some (ax_i (V 600 6)), some (ax_i r1)] [ax_i 0, ax_i (V 600 6), ax_i (V 600 6), ax_i 1, .ref r] rfl ?_
                refine ax_callI (pc' := 217) ⟨_, rfl⟩ ml_10_230 (rest := []) rfl (fun ss hs => ⟨_, _, (az_e 1 rfl) ss hs⟩) (Nat.le_of_ble_eq_true rfl) rfl rfl h (fun r21 V21 hg21 hr21 h => ?_)
                exact ax_iret ⟨_, rfl⟩ rfl rfl hr21 hg21 h
              · have h := h.1 (Classical.not_not.mp hc)
                refine ax_mv 2 214 [some (.ref r), some (ax_i (V 600 6)), some (ax_i r1)] [ax_i 1, ax_i (V 600 6), ax_i (V 600 6), ax_i 1, .ref r] rfl ?_
                refine ax_callI (pc' := 217) ⟨_, rfl⟩ ml_10_230 (rest := []) rfl (fun ss hs => ⟨_, _, (az_e 1 rfl) ss hs⟩) (Nat.le_of_ble_eq_true rfl) rfl rfl h (fun r22 V22 hg22 hr22 h => ?_)
                exact ax_iret ⟨_, rfl⟩ rfl rfl hr22 hg22 h
        by_cases e33 : r1 = 33
        · exact ax_ls (off := 65) (p1 := 126) ⟨_, rfl⟩ hr1 (by decide) (by rw [e33]; rfl) (by decide) (t0 (e33))
        by_cases e39 : r1 = 39
        · exact ax_ls (off := 88) (p1 := 149) ⟨_, rfl⟩ hr1 (by decide) (by rw [e39]; rfl) (by decide) (t1 (e39))
        by_cases e40 : r1 = 40
        · exact ax_ls (off := 78) (p1 := 139) ⟨_, rfl⟩ hr1 (by decide) (by rw [e40]; rfl) (by decide) (t2 (e40))
        by_cases e45 : r1 = 45
        · exact ax_ls (off := 59) (p1 := 120) ⟨_, rfl⟩ hr1 (by decide) (by rw [e45]; rfl) (by decide) (t3 (e45))
        by_cases e91 : r1 = 91
        · exact ax_ls (off := 83) (p1 := 144) ⟨_, rfl⟩ hr1 (by decide) (by rw [e91]; rfl) (by decide) (t4 (e91))
        by_cases e126 : r1 = 126
        · exact ax_ls (off := 71) (p1 := 132) ⟨_, rfl⟩ hr1 (by decide) (by rw [e126]; rfl) (by decide) (t5 (e126))
        exact ax_ls (off := 112) (p1 := 173) ⟨_, rfl⟩ hr1 (by decide) (by simp [Op.lookupswitch.offset, Ne.symm e33, Ne.symm e39, Ne.symm e40, Ne.symm e45, Ne.symm e91, Ne.symm e126]) (by decide) (tD e33 e39 e40 e45 e91 e126)
      · have h := h.2 hc
        refine ax_mv 1 56 [some (.ref r), some (ax_i (V 600 6)), some (ax_i r1)] [.ref r] rfl ?_
        refine ax_callI (pc' := 59) ⟨_, rfl⟩ ml_10_274 (rest := []) rfl (fun ss hs => ⟨_, _, (az_e 1 rfl) ss hs⟩) (Nat.le_of_ble_eq_true rfl) rfl rfl h (fun r23 V23 hg23 hr23 h => ?_)
        exact ax_iret ⟨_, rfl⟩ rfl rfl hr23 hg23 h
    · have h := h.2 hc
      refine ax_mv 5 41 [some (.ref r), some (ax_i (V 600 6)), some (ax_i r1)] [.ref r, ax_i (V 600 6), ax_i (V 600 6), ax_i 0, .ref r] rfl ?_
      refine ax_callI (pc' := 44) ⟨_, rfl⟩ ml_10_142 (rest := [ax_i (V 600 6), ax_i (V 600 6), ax_i 0, .ref r]) rfl (fun ss hs => ⟨_, _, (az_e 1 rfl) ss hs⟩) (Nat.le_of_ble_eq_true rfl) rfl rfl h (fun r24 V24 hg24 hr24 h => ?_)
      refine ax_callI (pc' := 47) ⟨_, rfl⟩ ml_10_230 (rest := []) rfl (fun ss hs => ⟨_, _, (az_e 1 rfl) ss hs⟩) (Nat.le_of_ble_eq_true rfl) rfl rfl h (fun r25 V25 hg25 hr25 h => ?_)
      exact ax_iret ⟨_, rfl⟩ rfl rfl hr25 hg25 h
  · have h := h.2 hc
    refine ax_mv 5 22 [some (.ref r), some (ax_i (V 600 6)), some (ax_i r1)] [.ref r, ax_i (V 600 6), ax_i (V 600 6), ax_i 2, .ref r] rfl ?_
    refine ax_callI (pc' := 25) ⟨_, rfl⟩ ml_10_90 (rest := [ax_i (V 600 6), ax_i (V 600 6), ax_i 2, .ref r]) rfl (fun ss hs => ⟨_, _, (az_e 1 rfl) ss hs⟩) (Nat.le_of_ble_eq_true rfl) rfl rfl h (fun r26 V26 hg26 hr26 h => ?_)
    refine ax_callI (pc' := 28) ⟨_, rfl⟩ ml_10_230 (rest := []) rfl (fun ss hs => ⟨_, _, (az_e 1 rfl) ss hs⟩) (Nat.le_of_ble_eq_true rfl) rfl rfl h (fun r27 V27 hg27 hr27 h => ?_)
    exact ax_iret ⟨_, rfl⟩ rfl rfl hr27 hg27 h
abbrev k_Reader_addPart_17 (B : Nat) (r : Nat) (d : Nat) (x1 : Int) (x2 : Int) (x3 : Int) (x4 : Int) (y5 : Option Value) (V : ax_V) (Φ : Int → ax_V → Prop) (Θ : ax_V → Prop) : Prop := ax_R (az_W B (az_ER B r)) ax_t d m_Reader_addPart 17 [some (.ref r), some (ax_i x1), some (ax_i x2), some (ax_i x3), some (ax_i x4), y5] [] V (ax_Ir Φ) Θ
theorem r_Reader_addPart_17 {B : Nat} {r : Nat} {d : Nat} {V : ax_V} {Φ : Int → ax_V → Prop} {Θ : ax_V → Prop} {x1 : Int} {x2 : Int} {x3 : Int} {x4 : Int} {y5 : Option Value} (hg : ax_g V) (hx1 : ax_rg x1) (hx2 : ax_rg x2) (hx3 : ax_rg x3) (hx4 : ax_rg x4) (hy5 : ax_y y5) (h : ax_I (az_W B (az_ER B r)) d q_Parts_add [.ref (B + 16), ax_i x1, ax_i x2, ax_i x3, ax_i x4] V (fun r1 V1 => (0 ≤ r1 ∧ r1 < 700) ∧ (∀ V2, V2 = ax_u V1 525 r1 (V1 600 9) → ((V2 600 13 ≤ 0 → (0 ≤ r1 ∧ r1 < 700) ∧ (∀ V3, V3 = ax_u V2 526 r1 0 → Φ r1 V3)) ∧ (0 < V2 600 13 → (0 ≤ r1 ∧ r1 < 700) ∧ (∀ V4, V4 = ax_u V2 526 r1 1 → Φ r1 V4))))) Θ) : k_Reader_addPart_17 B r d x1 x2 x3 x4 y5 V Φ Θ := by
  refine ax_mv 1 18 [some (.ref r), some (ax_i x1), some (ax_i x2), some (ax_i x3), some (ax_i x4), y5] [.ref r] rfl ?_
  refine ax_gR (v := .ref (B + 16)) (pc' := 21) ⟨_, rfl⟩ fl_10_35 (az_e 1 rfl) rfl rfl ?_
  refine ax_mv 4 26 [some (.ref r), some (ax_i x1), some (ax_i x2), some (ax_i x3), some (ax_i x4), y5] [ax_i x4, ax_i x3, ax_i x2, ax_i x1, .ref (B + 16)] rfl ?_
  refine ax_callI (pc' := 29) ⟨_, rfl⟩ ml_10_216 (rest := []) rfl (fun ss hs => ⟨_, _, (az_b 16 rfl) ss hs⟩) (Nat.le_of_ble_eq_true rfl) rfl rfl h (fun r1 V1 hg1 hr1 h => ?_)
  refine ax_sti (i := 0) (k := 5) (n := 2) (pc' := 31) (L' := [some (.ref r), some (ax_i x1), some (ax_i x2), some (ax_i x3), some (ax_i x4), some (ax_i r1)]) ⟨_, rfl⟩ rfl rfl rfl (Nat.le_of_ble_eq_true rfl) rfl rfl ?_
  refine ax_mv 1 32 [some (.ref r), some (ax_i x1), some (ax_i x2), some (ax_i x3), some (ax_i x4), some (ax_i r1)] [.ref r] rfl ?_
  refine ax_gR (v := .ref (B + 16)) (pc' := 35) ⟨_, rfl⟩ fl_10_35 (az_e 1 rfl) rfl rfl ?_
  refine ax_gR (v := .ref (B + 25)) (pc' := 38) ⟨_, rfl⟩ fl_10_219 (az_b 16 rfl) rfl rfl ?_
  refine ax_mv 2 41 [some (.ref r), some (ax_i x1), some (ax_i x2), some (ax_i x3), some (ax_i x4), some (ax_i r1)] [.ref r, ax_i r1, .ref (B + 25)] rfl ?_
  refine ax_gI (kI := 9) (pc' := 44) ⟨_, rfl⟩ fl_10_15 (az_e 1 rfl) rfl rfl rfl ?_
  obtain ⟨o1, h⟩ := h
  obtain ⟨V2, eV2⟩ : ∃ W9 : ax_V, W9 = ax_u V1 525 r1 (V1 600 9) := ⟨_, rfl⟩
  have h := h V2 eV2
  have hg2 : ax_g V2 := eV2 ▸ ax_u_g hg1 (hg1 _ _)
  refine ax_ist (n := 700) (pc' := 45) ⟨_, rfl⟩ az_ok (az_b 25 rfl) (by decide) o1 eV2 rfl ?_
  refine ax_mv 1 46 [some (.ref r), some (ax_i x1), some (ax_i x2), some (ax_i x3), some (ax_i x4), some (ax_i r1)] [.ref r] rfl ?_
  refine ax_gR (v := .ref (B + 16)) (pc' := 49) ⟨_, rfl⟩ fl_10_35 (az_e 1 rfl) rfl rfl ?_
  refine ax_gR (v := .ref (B + 26)) (pc' := 52) ⟨_, rfl⟩ fl_10_221 (az_b 16 rfl) rfl rfl ?_
  refine ax_mv 2 55 [some (.ref r), some (ax_i x1), some (ax_i x2), some (ax_i x3), some (ax_i x4), some (ax_i r1)] [.ref r, ax_i r1, .ref (B + 26)] rfl ?_
  refine ax_gI (kI := 13) (pc' := 58) ⟨_, rfl⟩ fl_10_224 (az_e 1 rfl) rfl rfl rfl ?_
  refine ax_if (p1 := 65) (p2 := 61) ⟨_, rfl⟩ (by decide) rfl (hg2 _ _) (fun hc => ?_) (fun hc => ?_)
  · have h := h.1 hc
    refine ax_mv 1 66 [some (.ref r), some (ax_i x1), some (ax_i x2), some (ax_i x3), some (ax_i x4), some (ax_i r1)] [ax_i 0, ax_i r1, .ref (B + 26)] rfl ?_
    obtain ⟨o2, h⟩ := h
    obtain ⟨V3, eV3⟩ : ∃ W9 : ax_V, W9 = ax_u V2 526 r1 0 := ⟨_, rfl⟩
    have h := h V3 eV3
    have hg3 : ax_g V3 := eV3 ▸ ax_u_g hg2 (by decide)
    refine ax_bst (n := 700) (pc' := 67) ⟨_, rfl⟩ az_ok (az_b 26 rfl) (by decide) o2 (by decide) eV3 rfl ?_
    refine ax_mv 1 69 [some (.ref r), some (ax_i x1), some (ax_i x2), some (ax_i x3), some (ax_i x4), some (ax_i r1)] [ax_i r1] rfl ?_
    exact ax_iret ⟨_, rfl⟩ rfl rfl hr1 hg3 h
  · have h := h.2 (Int.not_le.mp hc)
    refine ax_mv 2 66 [some (.ref r), some (ax_i x1), some (ax_i x2), some (ax_i x3), some (ax_i x4), some (ax_i r1)] [ax_i 1, ax_i r1, .ref (B + 26)] rfl ?_
    obtain ⟨o3, h⟩ := h
    obtain ⟨V4, eV4⟩ : ∃ W9 : ax_V, W9 = ax_u V2 526 r1 1 := ⟨_, rfl⟩
    have h := h V4 eV4
    have hg4 : ax_g V4 := eV4 ▸ ax_u_g hg2 (by decide)
    refine ax_bst (n := 700) (pc' := 67) ⟨_, rfl⟩ az_ok (az_b 26 rfl) (by decide) o3 (by decide) eV4 rfl ?_
    refine ax_mv 1 69 [some (.ref r), some (ax_i x1), some (ax_i x2), some (ax_i x3), some (ax_i x4), some (ax_i r1)] [ax_i r1] rfl ?_
    exact ax_iret ⟨_, rfl⟩ rfl rfl hr1 hg4 h
theorem r_Reader_addPart {B : Nat} {r : Nat} {d : Nat} {V : ax_V} {Φ : Int → ax_V → Prop} {Θ : ax_V → Prop} {x1 : Int} {x2 : Int} {x3 : Int} {x4 : Int} (hg : ax_g V) (hx1 : ax_rg x1) (hx2 : ax_rg x2) (hx3 : ax_rg x3) (hx4 : ax_rg x4) (h : ((V 516 0 < 700 → k_Reader_addPart_17 B r d x1 x2 x3 x4 none V Φ Θ) ∧ (700 ≤ V 516 0 → ax_N (az_W B (az_ER B r)) d q_Reader_refuse [.ref r] V (fun V1 => k_Reader_addPart_17 B r d x1 x2 x3 x4 none V1 Φ Θ) Θ))) : ax_I (az_W B (az_ER B r)) (d + 1) q_Reader_addPart [.ref r, ax_i x1, ax_i x2, ax_i x3, ax_i x4] V Φ Θ := by
  refine ax_T.of (M := m_Reader_addPart) rfl (Nat.le_of_ble_eq_true rfl) ?_
  refine ax_mv 0 0 [some (.ref r), some (ax_i x1), some (ax_i x2), some (ax_i x3), some (ax_i x4), none] [] rfl ?_
  refine ax_mv 1 1 [some (.ref r), some (ax_i x1), some (ax_i x2), some (ax_i x3), some (ax_i x4), none] [.ref r] rfl ?_
  refine ax_gR (v := .ref (B + 16)) (pc' := 4) ⟨_, rfl⟩ fl_10_35 (az_e 1 rfl) rfl rfl ?_
  refine ax_gI (kI := 0) (pc' := 7) ⟨_, rfl⟩ fl_10_154 (az_b 16 rfl) rfl rfl rfl ?_
  refine ax_sip (pc' := 10) ⟨_, rfl⟩ (by decide) rfl ?_
  refine ax_if2 (p1 := 17) (p2 := 13) ⟨_, rfl⟩ (by decide) rfl (hg _ _) (by decide) (fun hc => ?_) (fun hc => ?_)
  · have h := h.1 hc
    exact h
  · have h := h.2 (Int.not_lt.mp hc)
    refine ax_mv 1 14 [some (.ref r), some (ax_i x1), some (ax_i x2), some (ax_i x3), some (ax_i x4), none] [.ref r] rfl ?_
    refine ax_callN (pc' := 17) ⟨_, rfl⟩ ml_10_84 (rest := []) rfl (fun ss hs => ⟨_, _, (az_e 1 rfl) ss hs⟩) (Nat.le_of_ble_eq_true rfl) rfl rfl h (fun V1 hg1 h => ?_)
    exact h
abbrev k_Reader_readCall_16 (B : Nat) (r : Nat) (d : Nat) (x1 : Int) (y2 : Option Value) (y3 : Option Value) (y4 : Option Value) (y5 : Option Value) (y6 : Option Value) (V : ax_V) (Φ : Int → ax_V → Prop) (Θ : ax_V → Prop) : Prop := ax_R (az_W B (az_ER B r)) ax_t d m_Reader_readCall 16 [some (.ref r), some (ax_i x1), y2, y3, y4, y5, y6] [] V (ax_Ir Φ) Θ
abbrev k_Reader_readCall_77 (B : Nat) (r : Nat) (d : Nat) (x1 : Int) (x2 : Int) (x3 : Int) (x4 : Int) (x5 : Int) (y6 : Option Value) (V : ax_V) (Φ : Int → ax_V → Prop) (Θ : ax_V → Prop) : Prop := ax_R (az_W B (az_ER B r)) ax_t d m_Reader_readCall 77 [some (.ref r), some (ax_i x1), some (ax_i x2), some (ax_i x3), some (ax_i x4), some (ax_i x5), y6] [] V (ax_Ir Φ) Θ
abbrev k_Reader_readCall_144 (B : Nat) (r : Nat) (d : Nat) (x1 : Int) (x2 : Int) (x3 : Int) (y4 : Option Value) (y5 : Option Value) (y6 : Option Value) (V : ax_V) (Φ : Int → ax_V → Prop) (Θ : ax_V → Prop) : Prop := ax_R (az_W B (az_ER B r)) ax_t d m_Reader_readCall 144 [some (.ref r), some (ax_i x1), some (ax_i x2), some (ax_i x3), y4, y5, y6] [] V (ax_Ir Φ) Θ
set_option maxRecDepth 20000 in
theorem r_Reader_readCall_16 {B : Nat} {r : Nat} {d : Nat} {V : ax_V} {Φ : Int → ax_V → Prop} {Θ : ax_V → Prop} {x1 : Int} {y2 : Option Value} {y3 : Option Value} {y4 : Option Value} {y5 : Option Value} {y6 : Option Value} (hg : ax_g V) (hx1 : ax_rg x1) (hy2 : ax_y y2) (hy3 : ax_y y3) (hy4 : ax_y y4) (hy5 : ax_y y5) (hy6 : ax_y y6) (h : ax_I (az_W B (az_ER B r)) d q_Reader_look [.ref r] V (fun r1 V1 => ax_I (az_W B (az_ER B r)) d q_Program_find [.ref B, ax_i r1, ax_i (V1 600 8)] V1 (fun r2 V2 => ax_rg ((V2 600 6) + 1) ∧ (∀ V3, V3 = ax_u V2 600 6 ((V2 600 6) + 1) → ax_I (az_W B (az_ER B r)) d q_Reader_look [.ref r] V3 (fun r4 V4 => ((r4 = 40 → ax_N (az_W B (az_ER B r)) d q_Reader_deepen [.ref r] V4 (fun V5 => ax_rg ((V5 600 6) + 1) ∧ (∀ V6, V6 = ax_u V5 600 6 ((V5 600 6) + 1) → k_Reader_readCall_77 B r d x1 r2 (-1) (-1) 0 y6 V6 Φ Θ)) Θ) ∧ (¬ r4 = 40 → ax_N (az_W B (az_ER B r)) d q_Reader_refuse [.ref r] V4 (fun V7 => ax_N (az_W B (az_ER B r)) d q_Reader_deepen [.ref r] V7 (fun V8 => ax_rg ((V8 600 6) + 1) ∧ (∀ V9, V9 = ax_u V8 600 6 ((V8 600 6) + 1) → k_Reader_readCall_77 B r d x1 r2 (-1) (-1) 0 y6 V9 Φ Θ)) Θ) Θ))) Θ)) Θ) Θ) : k_Reader_readCall_16 B r d x1 y2 y3 y4 y5 y6 V Φ Θ := by
  refine ax_mv 1 17 [some (.ref r), some (ax_i x1), y2, y3, y4, y5, y6] [.ref r] rfl ?_
  refine ax_gR (v := .ref B) (pc' := 20) ⟨_, rfl⟩ fl_10_25 (az_e 1 rfl) rfl rfl ?_
  refine ax_mv 1 21 [some (.ref r), some (ax_i x1), y2, y3, y4, y5, y6] [.ref r, .ref B] rfl ?_
  refine ax_callI (pc' := 24) ⟨_, rfl⟩ ml_10_56 (rest := [.ref B]) rfl (fun ss hs => ⟨_, _, (az_e 1 rfl) ss hs⟩) (Nat.le_of_ble_eq_true rfl) rfl rfl h (fun r1 V1 hg1 hr1 h => ?_)
  refine ax_mv 1 25 [some (.ref r), some (ax_i x1), y2, y3, y4, y5, y6] [.ref r, ax_i r1, .ref B] rfl ?_
  refine ax_gI (kI := 8) (pc' := 28) ⟨_, rfl⟩ fl_10_87 (az_e 1 rfl) rfl rfl rfl ?_
  refine ax_callI (pc' := 31) ⟨_, rfl⟩ ml_10_286 (rest := []) rfl (fun ss hs => ⟨_, _, (az_b 0 rfl) ss hs⟩) (Nat.le_of_ble_eq_true rfl) rfl rfl h (fun r2 V2 hg2 hr2 h => ?_)
  refine ax_sti (i := 0) (k := 2) (n := 1) (pc' := 32) (L' := [some (.ref r), some (ax_i x1), some (ax_i r2), y3, y4, y5, y6]) ⟨_, rfl⟩ rfl rfl rfl (Nat.le_of_ble_eq_true rfl) rfl rfl ?_
  refine ax_mv 2 34 [some (.ref r), some (ax_i x1), some (ax_i r2), y3, y4, y5, y6] [.ref r, .ref r] rfl ?_
  refine ax_gI (kI := 6) (pc' := 37) ⟨_, rfl⟩ fl_10_49 (az_e 1 rfl) rfl rfl rfl ?_
  refine ax_mv 1 38 [some (.ref r), some (ax_i x1), some (ax_i r2), y3, y4, y5, y6] [ax_i 1, ax_i (V2 600 6), .ref r] rfl ?_
  refine ax_add (pc' := 39) ⟨_, rfl⟩ rfl ?_
  obtain ⟨o1, h⟩ := h
  obtain ⟨V3, eV3⟩ : ∃ W9 : ax_V, W9 = ax_u V2 600 6 ((V2 600 6) + 1) := ⟨_, rfl⟩
  have h := h V3 eV3
  have hg3 : ax_g V3 := eV3 ▸ ax_u_g hg2 o1
  refine ax_pI (kI := 6) (pc' := 42) ⟨_, rfl⟩ fl_10_49 az_ok (az_e 1 rfl) rfl rfl rfl rfl eV3 rfl ?_
  refine ax_mv 1 43 [some (.ref r), some (ax_i x1), some (ax_i r2), y3, y4, y5, y6] [.ref r] rfl ?_
  refine ax_callI (pc' := 46) ⟨_, rfl⟩ ml_10_56 (rest := []) rfl (fun ss hs => ⟨_, _, (az_e 1 rfl) ss hs⟩) (Nat.le_of_ble_eq_true rfl) rfl rfl h (fun r4 V4 hg4 hr4 h => ?_)
  refine ax_bip (pc' := 48) ⟨_, rfl⟩ (by decide) rfl ?_
  refine ax_if2 (p1 := 55) (p2 := 51) ⟨_, rfl⟩ (by decide) rfl hr4 (by decide) (fun hc => ?_) (fun hc => ?_)
  · have h := h.1 hc
    refine ax_mv 1 56 [some (.ref r), some (ax_i x1), some (ax_i r2), y3, y4, y5, y6] [.ref r] rfl ?_
    refine ax_callN (pc' := 59) ⟨_, rfl⟩ ml_10_249 (rest := []) rfl (fun ss hs => ⟨_, _, (az_e 1 rfl) ss hs⟩) (Nat.le_of_ble_eq_true rfl) rfl rfl h (fun V5 hg5 h => ?_)
    refine ax_mv 2 61 [some (.ref r), some (ax_i x1), some (ax_i r2), y3, y4, y5, y6] [.ref r, .ref r] rfl ?_
    refine ax_gI (kI := 6) (pc' := 64) ⟨_, rfl⟩ fl_10_49 (az_e 1 rfl) rfl rfl rfl ?_
    refine ax_mv 1 65 [some (.ref r), some (ax_i x1), some (ax_i r2), y3, y4, y5, y6] [ax_i 1, ax_i (V5 600 6), .ref r] rfl ?_
    refine ax_add (pc' := 66) ⟨_, rfl⟩ rfl ?_
    obtain ⟨o2, h⟩ := h
    obtain ⟨V6, eV6⟩ : ∃ W9 : ax_V, W9 = ax_u V5 600 6 ((V5 600 6) + 1) := ⟨_, rfl⟩
    have h := h V6 eV6
    have hg6 : ax_g V6 := eV6 ▸ ax_u_g hg5 o2
    refine ax_pI (kI := 6) (pc' := 69) ⟨_, rfl⟩ fl_10_49 az_ok (az_e 1 rfl) rfl rfl rfl rfl eV6 rfl ?_
    refine ax_mv 1 70 [some (.ref r), some (ax_i x1), some (ax_i r2), y3, y4, y5, y6] [ax_i (-1)] rfl ?_
    refine ax_sti (i := 0) (k := 3) (n := 1) (pc' := 71) (L' := [some (.ref r), some (ax_i x1), some (ax_i r2), some (ax_i (-1)), y4, y5, y6]) ⟨_, rfl⟩ rfl rfl rfl (Nat.le_of_ble_eq_true rfl) rfl rfl ?_
    refine ax_mv 1 72 [some (.ref r), some (ax_i x1), some (ax_i r2), some (ax_i (-1)), y4, y5, y6] [ax_i (-1)] rfl ?_
    refine ax_sti (i := 0) (k := 4) (n := 2) (pc' := 74) (L' := [some (.ref r), some (ax_i x1), some (ax_i r2), some (ax_i (-1)), some (ax_i (-1)), y5, y6]) ⟨_, rfl⟩ rfl rfl rfl (Nat.le_of_ble_eq_true rfl) rfl rfl ?_
    refine ax_mv 1 75 [some (.ref r), some (ax_i x1), some (ax_i r2), some (ax_i (-1)), some (ax_i (-1)), y5, y6] [ax_i 0] rfl ?_
    refine ax_sti (i := 0) (k := 5) (n := 2) (pc' := 77) (L' := [some (.ref r), some (ax_i x1), some (ax_i r2), some (ax_i (-1)), some (ax_i (-1)), some (ax_i 0), y6]) ⟨_, rfl⟩ rfl rfl rfl (Nat.le_of_ble_eq_true rfl) rfl rfl ?_
    exact h
  · have h := h.2 hc
    refine ax_mv 1 52 [some (.ref r), some (ax_i x1), some (ax_i r2), y3, y4, y5, y6] [.ref r] rfl ?_
    refine ax_callN (pc' := 55) ⟨_, rfl⟩ ml_10_84 (rest := []) rfl (fun ss hs => ⟨_, _, (az_e 1 rfl) ss hs⟩) (Nat.le_of_ble_eq_true rfl) rfl rfl h (fun V7 hg7 h => ?_)
    refine ax_mv 1 56 [some (.ref r), some (ax_i x1), some (ax_i r2), y3, y4, y5, y6] [.ref r] rfl ?_
    refine ax_callN (pc' := 59) ⟨_, rfl⟩ ml_10_249 (rest := []) rfl (fun ss hs => ⟨_, _, (az_e 1 rfl) ss hs⟩) (Nat.le_of_ble_eq_true rfl) rfl rfl h (fun V8 hg8 h => ?_)
    refine ax_mv 2 61 [some (.ref r), some (ax_i x1), some (ax_i r2), y3, y4, y5, y6] [.ref r, .ref r] rfl ?_
    refine ax_gI (kI := 6) (pc' := 64) ⟨_, rfl⟩ fl_10_49 (az_e 1 rfl) rfl rfl rfl ?_
    refine ax_mv 1 65 [some (.ref r), some (ax_i x1), some (ax_i r2), y3, y4, y5, y6] [ax_i 1, ax_i (V8 600 6), .ref r] rfl ?_
    refine ax_add (pc' := 66) ⟨_, rfl⟩ rfl ?_
    obtain ⟨o3, h⟩ := h
    obtain ⟨V9, eV9⟩ : ∃ W9 : ax_V, W9 = ax_u V8 600 6 ((V8 600 6) + 1) := ⟨_, rfl⟩
    have h := h V9 eV9
    have hg9 : ax_g V9 := eV9 ▸ ax_u_g hg8 o3
    refine ax_pI (kI := 6) (pc' := 69) ⟨_, rfl⟩ fl_10_49 az_ok (az_e 1 rfl) rfl rfl rfl rfl eV9 rfl ?_
    refine ax_mv 1 70 [some (.ref r), some (ax_i x1), some (ax_i r2), y3, y4, y5, y6] [ax_i (-1)] rfl ?_
    refine ax_sti (i := 0) (k := 3) (n := 1) (pc' := 71) (L' := [some (.ref r), some (ax_i x1), some (ax_i r2), some (ax_i (-1)), y4, y5, y6]) ⟨_, rfl⟩ rfl rfl rfl (Nat.le_of_ble_eq_true rfl) rfl rfl ?_
    refine ax_mv 1 72 [some (.ref r), some (ax_i x1), some (ax_i r2), some (ax_i (-1)), y4, y5, y6] [ax_i (-1)] rfl ?_
    refine ax_sti (i := 0) (k := 4) (n := 2) (pc' := 74) (L' := [some (.ref r), some (ax_i x1), some (ax_i r2), some (ax_i (-1)), some (ax_i (-1)), y5, y6]) ⟨_, rfl⟩ rfl rfl rfl (Nat.le_of_ble_eq_true rfl) rfl rfl ?_
    refine ax_mv 1 75 [some (.ref r), some (ax_i x1), some (ax_i r2), some (ax_i (-1)), some (ax_i (-1)), y5, y6] [ax_i 0] rfl ?_
    refine ax_sti (i := 0) (k := 5) (n := 2) (pc' := 77) (L' := [some (.ref r), some (ax_i x1), some (ax_i r2), some (ax_i (-1)), some (ax_i (-1)), some (ax_i 0), y6]) ⟨_, rfl⟩ rfl rfl rfl (Nat.le_of_ble_eq_true rfl) rfl rfl ?_
    exact h
set_option maxRecDepth 20000 in
theorem r_Reader_readCall_77 {B : Nat} {r : Nat} {d : Nat} {V : ax_V} {Φ : Int → ax_V → Prop} {Θ : ax_V → Prop} {x1 : Int} {x2 : Int} {x3 : Int} {x4 : Int} {x5 : Int} {y6 : Option Value} (hg : ax_g V) (hx1 : ax_rg x1) (hx2 : ax_rg x2) (hx3 : ax_rg x3) (hx4 : ax_rg x4) (hx5 : ax_rg x5) (hy6 : ax_y y6) (h : ((700 ≤ x5 → k_Reader_readCall_144 B r d x1 x2 x3 (some (ax_i x4)) (some (ax_i x5)) y6 V Φ Θ) ∧ (x5 < 700 → ax_I (az_W B (az_ER B r)) d q_Reader_look [.ref r] V (fun r1 V1 => ((r1 = 41 → k_Reader_readCall_144 B r d x1 x2 x3 (some (ax_i x4)) (some (ax_i x5)) y6 V1 Φ Θ) ∧ (¬ r1 = 41 → ((x5 ≤ 0 → ax_I (az_W B (az_ER B r)) d q_Reader_readX [.ref r] V1 (fun r2 V2 => ((0 ≤ x4 → (0 ≤ x4 ∧ x4 < 700) ∧ (∀ V3, V3 = ax_u V2 522 x4 r2 → k_Reader_readCall_77 B r d x1 x2 x3 r2 (x5 + 1) (some (ax_i r2)) V3 Φ Θ)) ∧ (x4 < 0 → k_Reader_readCall_77 B r d x1 x2 r2 r2 (x5 + 1) (some (ax_i r2)) V2 Φ Θ))) Θ) ∧ (0 < x5 → ax_N (az_W B (az_ER B r)) d q_Reader_expect [.ref r, ax_i 44] V1 (fun V4 => ax_I (az_W B (az_ER B r)) d q_Reader_readX [.ref r] V4 (fun r5 V5 => ((0 ≤ x4 → (0 ≤ x4 ∧ x4 < 700) ∧ (∀ V6, V6 = ax_u V5 522 x4 r5 → k_Reader_readCall_77 B r d x1 x2 x3 r5 (x5 + 1) (some (ax_i r5)) V6 Φ Θ)) ∧ (x4 < 0 → k_Reader_readCall_77 B r d x1 x2 r5 r5 (x5 + 1) (some (ax_i r5)) V5 Φ Θ))) Θ) Θ))))) Θ))) : k_Reader_readCall_77 B r d x1 x2 x3 x4 x5 y6 V Φ Θ := by
  refine ax_mv 1 79 [some (.ref r), some (ax_i x1), some (ax_i x2), some (ax_i x3), some (ax_i x4), some (ax_i x5), y6] [ax_i x5] rfl ?_
  refine ax_sip (pc' := 82) ⟨_, rfl⟩ (by decide) rfl ?_
  refine ax_if2 (p1 := 144) (p2 := 85) ⟨_, rfl⟩ (by decide) rfl hx5 (by decide) (fun hc => ?_) (fun hc => ?_)
  · have h := h.1 hc
    exact h
  · have h := h.2 (Int.not_le.mp hc)
    refine ax_mv 1 86 [some (.ref r), some (ax_i x1), some (ax_i x2), some (ax_i x3), some (ax_i x4), some (ax_i x5), y6] [.ref r] rfl ?_
    refine ax_callI (pc' := 89) ⟨_, rfl⟩ ml_10_56 (rest := []) rfl (fun ss hs => ⟨_, _, (az_e 1 rfl) ss hs⟩) (Nat.le_of_ble_eq_true rfl) rfl rfl h (fun r1 V1 hg1 hr1 h => ?_)
    refine ax_bip (pc' := 91) ⟨_, rfl⟩ (by decide) rfl ?_
    refine ax_if2 (p1 := 144) (p2 := 94) ⟨_, rfl⟩ (by decide) rfl hr1 (by decide) (fun hc => ?_) (fun hc => ?_)
    · have h := h.1 hc
      exact h
    · have h := h.2 hc
      refine ax_mv 1 96 [some (.ref r), some (ax_i x1), some (ax_i x2), some (ax_i x3), some (ax_i x4), some (ax_i x5), y6] [ax_i x5] rfl ?_
      refine ax_if (p1 := 105) (p2 := 99) ⟨_, rfl⟩ (by decide) rfl hx5 (fun hc => ?_) (fun hc => ?_)
      · have h := h.1 hc
        refine ax_mv 1 106 [some (.ref r), some (ax_i x1), some (ax_i x2), some (ax_i x3), some (ax_i x4), some (ax_i x5), y6] [.ref r] rfl ?_
        refine ax_callI (pc' := 109) ⟨_, rfl⟩ ml_10_166 (rest := []) rfl (fun ss hs => ⟨_, _, (az_e 1 rfl) ss hs⟩) (Nat.le_of_ble_eq_true rfl) rfl rfl h (fun r2 V2 hg2 hr2 h => ?_)
        refine ax_sti (i := 0) (k := 6) (n := 2) (pc' := 111) (L' := [some (.ref r), some (ax_i x1), some (ax_i x2), some (ax_i x3), some (ax_i x4), some (ax_i x5), some (ax_i r2)]) ⟨_, rfl⟩ rfl rfl rfl (Nat.le_of_ble_eq_true rfl) rfl rfl ?_
        refine ax_mv 1 113 [some (.ref r), some (ax_i x1), some (ax_i x2), some (ax_i x3), some (ax_i x4), some (ax_i x5), some (ax_i r2)] [ax_i x4] rfl ?_
        refine ax_if (p1 := 122) (p2 := 116) ⟨_, rfl⟩ (by decide) rfl hx4 (fun hc => ?_) (fun hc => ?_)
        · have h := h.1 hc
          refine ax_mv 1 123 [some (.ref r), some (ax_i x1), some (ax_i x2), some (ax_i x3), some (ax_i x4), some (ax_i x5), some (ax_i r2)] [.ref r] rfl ?_
          refine ax_gR (v := .ref (B + 16)) (pc' := 126) ⟨_, rfl⟩ fl_10_35 (az_e 1 rfl) rfl rfl ?_
          refine ax_gR (v := .ref (B + 22)) (pc' := 129) ⟨_, rfl⟩ fl_10_236 (az_b 16 rfl) rfl rfl ?_
          refine ax_mv 2 133 [some (.ref r), some (ax_i x1), some (ax_i x2), some (ax_i x3), some (ax_i x4), some (ax_i x5), some (ax_i r2)] [ax_i r2, ax_i x4, .ref (B + 22)] rfl ?_
          obtain ⟨o4, h⟩ := h
          obtain ⟨V3, eV3⟩ : ∃ W9 : ax_V, W9 = ax_u V2 522 x4 r2 := ⟨_, rfl⟩
          have h := h V3 eV3
          have hg3 : ax_g V3 := eV3 ▸ ax_u_g hg2 hr2
          refine ax_ist (n := 700) (pc' := 134) ⟨_, rfl⟩ az_ok (az_b 22 rfl) (by decide) o4 eV3 rfl ?_
          refine ax_mv 1 136 [some (.ref r), some (ax_i x1), some (ax_i x2), some (ax_i x3), some (ax_i x4), some (ax_i x5), some (ax_i r2)] [ax_i r2] rfl ?_
          refine ax_sti (i := 0) (k := 4) (n := 2) (pc' := 138) (L' := [some (.ref r), some (ax_i x1), some (ax_i x2), some (ax_i x3), some (ax_i r2), some (ax_i x5), some (ax_i r2)]) ⟨_, rfl⟩ rfl rfl rfl (Nat.le_of_ble_eq_true rfl) rfl rfl ?_
          refine ax_inc (x := x5) (pc' := 141) (L' := [some (.ref r), some (ax_i x1), some (ax_i x2), some (ax_i x3), some (ax_i r2), some (ax_i (x5 + 1)), some (ax_i r2)]) ⟨_, rfl⟩ rfl rfl rfl rfl ?_
          refine ax_mv 1 77 [some (.ref r), some (ax_i x1), some (ax_i x2), some (ax_i x3), some (ax_i r2), some (ax_i (x5 + 1)), some (ax_i r2)] [] rfl ?_
          exact h
        · have h := h.2 (Int.not_le.mp hc)
          refine ax_mv 1 118 [some (.ref r), some (ax_i x1), some (ax_i x2), some (ax_i x3), some (ax_i x4), some (ax_i x5), some (ax_i r2)] [ax_i r2] rfl ?_
          refine ax_sti (i := 0) (k := 3) (n := 1) (pc' := 119) (L' := [some (.ref r), some (ax_i x1), some (ax_i x2), some (ax_i r2), some (ax_i x4), some (ax_i x5), some (ax_i r2)]) ⟨_, rfl⟩ rfl rfl rfl (Nat.le_of_ble_eq_true rfl) rfl rfl ?_
          refine ax_mv 2 136 [some (.ref r), some (ax_i x1), some (ax_i x2), some (ax_i r2), some (ax_i x4), some (ax_i x5), some (ax_i r2)] [ax_i r2] rfl ?_
          refine ax_sti (i := 0) (k := 4) (n := 2) (pc' := 138) (L' := [some (.ref r), some (ax_i x1), some (ax_i x2), some (ax_i r2), some (ax_i r2), some (ax_i x5), some (ax_i r2)]) ⟨_, rfl⟩ rfl rfl rfl (Nat.le_of_ble_eq_true rfl) rfl rfl ?_
          refine ax_inc (x := x5) (pc' := 141) (L' := [some (.ref r), some (ax_i x1), some (ax_i x2), some (ax_i r2), some (ax_i r2), some (ax_i (x5 + 1)), some (ax_i r2)]) ⟨_, rfl⟩ rfl rfl rfl rfl ?_
          refine ax_mv 1 77 [some (.ref r), some (ax_i x1), some (ax_i x2), some (ax_i r2), some (ax_i r2), some (ax_i (x5 + 1)), some (ax_i r2)] [] rfl ?_
          exact h
      · have h := h.2 (Int.not_le.mp hc)
        refine ax_mv 1 100 [some (.ref r), some (ax_i x1), some (ax_i x2), some (ax_i x3), some (ax_i x4), some (ax_i x5), y6] [.ref r] rfl ?_
        refine ax_bip (pc' := 102) ⟨_, rfl⟩ (by decide) rfl ?_
        refine ax_callN (pc' := 105) ⟨_, rfl⟩ ml_10_70 (rest := []) rfl (fun ss hs => ⟨_, _, (az_e 1 rfl) ss hs⟩) (Nat.le_of_ble_eq_true rfl) rfl rfl h (fun V4 hg4 h => ?_)
        refine ax_mv 1 106 [some (.ref r), some (ax_i x1), some (ax_i x2), some (ax_i x3), some (ax_i x4), some (ax_i x5), y6] [.ref r] rfl ?_
        refine ax_callI (pc' := 109) ⟨_, rfl⟩ ml_10_166 (rest := []) rfl (fun ss hs => ⟨_, _, (az_e 1 rfl) ss hs⟩) (Nat.le_of_ble_eq_true rfl) rfl rfl h (fun r5 V5 hg5 hr5 h => ?_)
        refine ax_sti (i := 0) (k := 6) (n := 2) (pc' := 111) (L' := [some (.ref r), some (ax_i x1), some (ax_i x2), some (ax_i x3), some (ax_i x4), some (ax_i x5), some (ax_i r5)]) ⟨_, rfl⟩ rfl rfl rfl (Nat.le_of_ble_eq_true rfl) rfl rfl ?_
        refine ax_mv 1 113 [some (.ref r), some (ax_i x1), some (ax_i x2), some (ax_i x3), some (ax_i x4), some (ax_i x5), some (ax_i r5)] [ax_i x4] rfl ?_
        refine ax_if (p1 := 122) (p2 := 116) ⟨_, rfl⟩ (by decide) rfl hx4 (fun hc => ?_) (fun hc => ?_)
        · have h := h.1 hc
          refine ax_mv 1 123 [some (.ref r), some (ax_i x1), some (ax_i x2), some (ax_i x3), some (ax_i x4), some (ax_i x5), some (ax_i r5)] [.ref r] rfl ?_
          refine ax_gR (v := .ref (B + 16)) (pc' := 126) ⟨_, rfl⟩ fl_10_35 (az_e 1 rfl) rfl rfl ?_
          refine ax_gR (v := .ref (B + 22)) (pc' := 129) ⟨_, rfl⟩ fl_10_236 (az_b 16 rfl) rfl rfl ?_
          refine ax_mv 2 133 [some (.ref r), some (ax_i x1), some (ax_i x2), some (ax_i x3), some (ax_i x4), some (ax_i x5), some (ax_i r5)] [ax_i r5, ax_i x4, .ref (B + 22)] rfl ?_
          obtain ⟨o5, h⟩ := h
          obtain ⟨V6, eV6⟩ : ∃ W9 : ax_V, W9 = ax_u V5 522 x4 r5 := ⟨_, rfl⟩
          have h := h V6 eV6
          have hg6 : ax_g V6 := eV6 ▸ ax_u_g hg5 hr5
          refine ax_ist (n := 700) (pc' := 134) ⟨_, rfl⟩ az_ok (az_b 22 rfl) (by decide) o5 eV6 rfl ?_
          refine ax_mv 1 136 [some (.ref r), some (ax_i x1), some (ax_i x2), some (ax_i x3), some (ax_i x4), some (ax_i x5), some (ax_i r5)] [ax_i r5] rfl ?_
          refine ax_sti (i := 0) (k := 4) (n := 2) (pc' := 138) (L' := [some (.ref r), some (ax_i x1), some (ax_i x2), some (ax_i x3), some (ax_i r5), some (ax_i x5), some (ax_i r5)]) ⟨_, rfl⟩ rfl rfl rfl (Nat.le_of_ble_eq_true rfl) rfl rfl ?_
          refine ax_inc (x := x5) (pc' := 141) (L' := [some (.ref r), some (ax_i x1), some (ax_i x2), some (ax_i x3), some (ax_i r5), some (ax_i (x5 + 1)), some (ax_i r5)]) ⟨_, rfl⟩ rfl rfl rfl rfl ?_
          refine ax_mv 1 77 [some (.ref r), some (ax_i x1), some (ax_i x2), some (ax_i x3), some (ax_i r5), some (ax_i (x5 + 1)), some (ax_i r5)] [] rfl ?_
          exact h
        · have h := h.2 (Int.not_le.mp hc)
          refine ax_mv 1 118 [some (.ref r), some (ax_i x1), some (ax_i x2), some (ax_i x3), some (ax_i x4), some (ax_i x5), some (ax_i r5)] [ax_i r5] rfl ?_
          refine ax_sti (i := 0) (k := 3) (n := 1) (pc' := 119) (L' := [some (.ref r), some (ax_i x1), some (ax_i x2), some (ax_i r5), some (ax_i x4), some (ax_i x5), some (ax_i r5)]) ⟨_, rfl⟩ rfl rfl rfl (Nat.le_of_ble_eq_true rfl) rfl rfl ?_
          refine ax_mv 2 136 [some (.ref r), some (ax_i x1), some (ax_i x2), some (ax_i r5), some (ax_i x4), some (ax_i x5), some (ax_i r5)] [ax_i r5] rfl ?_
          refine ax_sti (i := 0) (k := 4) (n := 2) (pc' := 138) (L' := [some (.ref r), some (ax_i x1), some (ax_i x2), some (ax_i r5), some (ax_i r5), some (ax_i x5), some (ax_i r5)]) ⟨_, rfl⟩ rfl rfl rfl (Nat.le_of_ble_eq_true rfl) rfl rfl ?_
          refine ax_inc (x := x5) (pc' := 141) (L' := [some (.ref r), some (ax_i x1), some (ax_i x2), some (ax_i r5), some (ax_i r5), some (ax_i (x5 + 1)), some (ax_i r5)]) ⟨_, rfl⟩ rfl rfl rfl rfl ?_
          refine ax_mv 1 77 [some (.ref r), some (ax_i x1), some (ax_i x2), some (ax_i r5), some (ax_i r5), some (ax_i (x5 + 1)), some (ax_i r5)] [] rfl ?_
          exact h
set_option maxRecDepth 20000 in
theorem r_Reader_readCall_144 {B : Nat} {r : Nat} {d : Nat} {V : ax_V} {Φ : Int → ax_V → Prop} {Θ : ax_V → Prop} {x1 : Int} {x2 : Int} {x3 : Int} {y4 : Option Value} {y5 : Option Value} {y6 : Option Value} (hg : ax_g V) (hx1 : ax_rg x1) (hx2 : ax_rg x2) (hx3 : ax_rg x3) (hy4 : ax_y y4) (hy5 : ax_y y5) (hy6 : ax_y y6) (h : ax_N (az_W B (az_ER B r)) d q_Reader_expect [.ref r, ax_i 41] V (fun V1 => ax_rg ((V1 600 11) - 1) ∧ (∀ V2, V2 = ax_u V1 600 11 ((V1 600 11) - 1) → ax_I (az_W B (az_ER B r)) d q_Reader_addPart [.ref r, ax_i 22, ax_i x1, ax_i x1, ax_i x2] V2 (fun r3 V3 => (0 ≤ r3 ∧ r3 < 700) ∧ (∀ V4, V4 = ax_u V3 521 r3 x3 → ax_I (az_W B (az_ER B r)) d q_Reader_look [.ref r] V4 (fun r5 V5 => ((r5 = 94 → ax_rg ((V5 600 6) + 1) ∧ (∀ V6, V6 = ax_u V5 600 6 ((V5 600 6) + 1) → (0 ≤ r3 ∧ r3 < 700) ∧ (∀ V7, V7 = ax_u V6 524 r3 (V6 600 6) → ax_I (az_W B (az_ER B r)) d q_Reader_takeLetter [.ref r] V7 (fun r8 V8 => (0 ≤ r3 ∧ r3 < 700) ∧ (∀ V9, V9 = ax_u V8 523 r3 r8 → Φ r3 V9)) Θ))) ∧ (¬ r5 = 94 → Φ r3 V5))) Θ)) Θ)) Θ) : k_Reader_readCall_144 B r d x1 x2 x3 y4 y5 y6 V Φ Θ := by
  refine ax_mv 1 145 [some (.ref r), some (ax_i x1), some (ax_i x2), some (ax_i x3), y4, y5, y6] [.ref r] rfl ?_
  refine ax_bip (pc' := 147) ⟨_, rfl⟩ (by decide) rfl ?_
  refine ax_callN (pc' := 150) ⟨_, rfl⟩ ml_10_70 (rest := []) rfl (fun ss hs => ⟨_, _, (az_e 1 rfl) ss hs⟩) (Nat.le_of_ble_eq_true rfl) rfl rfl h (fun V1 hg1 h => ?_)
  refine ax_mv 2 152 [some (.ref r), some (ax_i x1), some (ax_i x2), some (ax_i x3), y4, y5, y6] [.ref r, .ref r] rfl ?_
  refine ax_gI (kI := 11) (pc' := 155) ⟨_, rfl⟩ fl_10_239 (az_e 1 rfl) rfl rfl rfl ?_
  refine ax_mv 1 156 [some (.ref r), some (ax_i x1), some (ax_i x2), some (ax_i x3), y4, y5, y6] [ax_i 1, ax_i (V1 600 11), .ref r] rfl ?_
  refine ax_sub (pc' := 157) ⟨_, rfl⟩ rfl ?_
  obtain ⟨o6, h⟩ := h
  obtain ⟨V2, eV2⟩ : ∃ W9 : ax_V, W9 = ax_u V1 600 11 ((V1 600 11) - 1) := ⟨_, rfl⟩
  have h := h V2 eV2
  have hg2 : ax_g V2 := eV2 ▸ ax_u_g hg1 o6
  refine ax_pI (kI := 11) (pc' := 160) ⟨_, rfl⟩ fl_10_239 az_ok (az_e 1 rfl) rfl rfl rfl rfl eV2 rfl ?_
  refine ax_mv 1 161 [some (.ref r), some (ax_i x1), some (ax_i x2), some (ax_i x3), y4, y5, y6] [.ref r] rfl ?_
  refine ax_bip (pc' := 163) ⟨_, rfl⟩ (by decide) rfl ?_
  refine ax_mv 3 166 [some (.ref r), some (ax_i x1), some (ax_i x2), some (ax_i x3), y4, y5, y6] [ax_i x2, ax_i x1, ax_i x1, ax_i 22, .ref r] rfl ?_
  refine ax_callI (pc' := 169) ⟨_, rfl⟩ ml_10_230 (rest := []) rfl (fun ss hs => ⟨_, _, (az_e 1 rfl) ss hs⟩) (Nat.le_of_ble_eq_true rfl) rfl rfl h (fun r3 V3 hg3 hr3 h => ?_)
  refine ax_sti (i := 0) (k := 5) (n := 2) (pc' := 171) (L' := [some (.ref r), some (ax_i x1), some (ax_i x2), some (ax_i x3), y4, some (ax_i r3), y6]) ⟨_, rfl⟩ rfl rfl (ax_kill_y (k := 4) rfl hy4) (Nat.le_of_ble_eq_true rfl) rfl rfl ?_
  refine ax_mv 1 172 [some (.ref r), some (ax_i x1), some (ax_i x2), some (ax_i x3), y4, some (ax_i r3), y6] [.ref r] rfl ?_
  refine ax_gR (v := .ref (B + 16)) (pc' := 175) ⟨_, rfl⟩ fl_10_35 (az_e 1 rfl) rfl rfl ?_
  refine ax_gR (v := .ref (B + 21)) (pc' := 178) ⟨_, rfl⟩ fl_10_233 (az_b 16 rfl) rfl rfl ?_
  refine ax_mv 2 181 [some (.ref r), some (ax_i x1), some (ax_i x2), some (ax_i x3), y4, some (ax_i r3), y6] [ax_i x3, ax_i r3, .ref (B + 21)] rfl ?_
  obtain ⟨o7, h⟩ := h
  obtain ⟨V4, eV4⟩ : ∃ W9 : ax_V, W9 = ax_u V3 521 r3 x3 := ⟨_, rfl⟩
  have h := h V4 eV4
  have hg4 : ax_g V4 := eV4 ▸ ax_u_g hg3 hx3
  refine ax_ist (n := 700) (pc' := 182) ⟨_, rfl⟩ az_ok (az_b 21 rfl) (by decide) o7 eV4 rfl ?_
  refine ax_mv 1 183 [some (.ref r), some (ax_i x1), some (ax_i x2), some (ax_i x3), y4, some (ax_i r3), y6] [.ref r] rfl ?_
  refine ax_callI (pc' := 186) ⟨_, rfl⟩ ml_10_56 (rest := []) rfl (fun ss hs => ⟨_, _, (az_e 1 rfl) ss hs⟩) (Nat.le_of_ble_eq_true rfl) rfl rfl h (fun r5 V5 hg5 hr5 h => ?_)
  refine ax_bip (pc' := 188) ⟨_, rfl⟩ (by decide) rfl ?_
  refine ax_if2 (p1 := 229) (p2 := 191) ⟨_, rfl⟩ (by decide) rfl hr5 (by decide) (fun hc => ?_) (fun hc => ?_)
  · have h := h.2 hc
    refine ax_mv 1 231 [some (.ref r), some (ax_i x1), some (ax_i x2), some (ax_i x3), y4, some (ax_i r3), y6] [ax_i r3] rfl ?_
    exact ax_iret ⟨_, rfl⟩ rfl rfl hr3 hg5 h
  · have h := h.1 (Classical.not_not.mp hc)
    refine ax_mv 2 193 [some (.ref r), some (ax_i x1), some (ax_i x2), some (ax_i x3), y4, some (ax_i r3), y6] [.ref r, .ref r] rfl ?_
    refine ax_gI (kI := 6) (pc' := 196) ⟨_, rfl⟩ fl_10_49 (az_e 1 rfl) rfl rfl rfl ?_
    refine ax_mv 1 197 [some (.ref r), some (ax_i x1), some (ax_i x2), some (ax_i x3), y4, some (ax_i r3), y6] [ax_i 1, ax_i (V5 600 6), .ref r] rfl ?_
    refine ax_add (pc' := 198) ⟨_, rfl⟩ rfl ?_
    obtain ⟨o8, h⟩ := h
    obtain ⟨V6, eV6⟩ : ∃ W9 : ax_V, W9 = ax_u V5 600 6 ((V5 600 6) + 1) := ⟨_, rfl⟩
    have h := h V6 eV6
    have hg6 : ax_g V6 := eV6 ▸ ax_u_g hg5 o8
    refine ax_pI (kI := 6) (pc' := 201) ⟨_, rfl⟩ fl_10_49 az_ok (az_e 1 rfl) rfl rfl rfl rfl eV6 rfl ?_
    refine ax_mv 1 202 [some (.ref r), some (ax_i x1), some (ax_i x2), some (ax_i x3), y4, some (ax_i r3), y6] [.ref r] rfl ?_
    refine ax_gR (v := .ref (B + 16)) (pc' := 205) ⟨_, rfl⟩ fl_10_35 (az_e 1 rfl) rfl rfl ?_
    refine ax_gR (v := .ref (B + 24)) (pc' := 208) ⟨_, rfl⟩ fl_10_289 (az_b 16 rfl) rfl rfl ?_
    refine ax_mv 2 211 [some (.ref r), some (ax_i x1), some (ax_i x2), some (ax_i x3), y4, some (ax_i r3), y6] [.ref r, ax_i r3, .ref (B + 24)] rfl ?_
    refine ax_gI (kI := 6) (pc' := 214) ⟨_, rfl⟩ fl_10_49 (az_e 1 rfl) rfl rfl rfl ?_
    obtain ⟨o9, h⟩ := h
    obtain ⟨V7, eV7⟩ : ∃ W9 : ax_V, W9 = ax_u V6 524 r3 (V6 600 6) := ⟨_, rfl⟩
    have h := h V7 eV7
    have hg7 : ax_g V7 := eV7 ▸ ax_u_g hg6 (hg6 _ _)
    refine ax_ist (n := 700) (pc' := 215) ⟨_, rfl⟩ az_ok (az_b 24 rfl) (by decide) o9 eV7 rfl ?_
    refine ax_mv 1 216 [some (.ref r), some (ax_i x1), some (ax_i x2), some (ax_i x3), y4, some (ax_i r3), y6] [.ref r] rfl ?_
    refine ax_gR (v := .ref (B + 16)) (pc' := 219) ⟨_, rfl⟩ fl_10_35 (az_e 1 rfl) rfl rfl ?_
    refine ax_gR (v := .ref (B + 23)) (pc' := 222) ⟨_, rfl⟩ fl_10_292 (az_b 16 rfl) rfl rfl ?_
    refine ax_mv 2 225 [some (.ref r), some (ax_i x1), some (ax_i x2), some (ax_i x3), y4, some (ax_i r3), y6] [.ref r, ax_i r3, .ref (B + 23)] rfl ?_
    refine ax_callI (pc' := 228) ⟨_, rfl⟩ ml_10_90 (rest := [ax_i r3, .ref (B + 23)]) rfl (fun ss hs => ⟨_, _, (az_e 1 rfl) ss hs⟩) (Nat.le_of_ble_eq_true rfl) rfl rfl h (fun r8 V8 hg8 hr8 h => ?_)
    obtain ⟨o10, h⟩ := h
    obtain ⟨V9, eV9⟩ : ∃ W9 : ax_V, W9 = ax_u V8 523 r3 r8 := ⟨_, rfl⟩
    have h := h V9 eV9
    have hg9 : ax_g V9 := eV9 ▸ ax_u_g hg8 hr8
    refine ax_ist (n := 700) (pc' := 229) ⟨_, rfl⟩ az_ok (az_b 23 rfl) (by decide) o10 eV9 rfl ?_
    refine ax_mv 1 231 [some (.ref r), some (ax_i x1), some (ax_i x2), some (ax_i x3), y4, some (ax_i r3), y6] [ax_i r3] rfl ?_
    exact ax_iret ⟨_, rfl⟩ rfl rfl hr3 hg9 h
set_option maxRecDepth 20000 in
theorem r_Reader_readCall {B : Nat} {r : Nat} {d : Nat} {V : ax_V} {Φ : Int → ax_V → Prop} {Θ : ax_V → Prop} (hg : ax_g V) (h : ((V 600 10 = 0 → k_Reader_readCall_16 B r d (V 600 6) none none none none none V Φ Θ) ∧ (¬ V 600 10 = 0 → ax_N (az_W B (az_ER B r)) d q_Reader_refuse [.ref r] V (fun V1 => k_Reader_readCall_16 B r d (V 600 6) none none none none none V1 Φ Θ) Θ))) : ax_I (az_W B (az_ER B r)) (d + 1) q_Reader_readCall [.ref r] V Φ Θ := by
  refine ax_T.of (M := m_Reader_readCall) rfl (Nat.le_of_ble_eq_true rfl) ?_
  refine ax_mv 0 0 [some (.ref r), none, none, none, none, none, none] [] rfl ?_
  refine ax_mv 1 1 [some (.ref r), none, none, none, none, none, none] [.ref r] rfl ?_
  refine ax_gI (kI := 6) (pc' := 4) ⟨_, rfl⟩ fl_10_49 (az_e 1 rfl) rfl rfl rfl ?_
  refine ax_sti (i := 0) (k := 1) (n := 1) (pc' := 5) (L' := [some (.ref r), some (ax_i (V 600 6)), none, none, none, none, none]) ⟨_, rfl⟩ rfl rfl rfl (Nat.le_of_ble_eq_true rfl) rfl rfl ?_
  refine ax_mv 1 6 [some (.ref r), some (ax_i (V 600 6)), none, none, none, none, none] [.ref r] rfl ?_
  refine ax_gI (kI := 10) (pc' := 9) ⟨_, rfl⟩ fl_10_199 (az_e 1 rfl) rfl rfl rfl ?_
  refine ax_if (p1 := 16) (p2 := 12) ⟨_, rfl⟩ (by decide) rfl (hg _ _) (fun hc => ?_) (fun hc => ?_)
  · have h := h.1 hc
    exact h
  · have h := h.2 hc
    refine ax_mv 1 13 [some (.ref r), some (ax_i (V 600 6)), none, none, none, none, none] [.ref r] rfl ?_
    refine ax_callN (pc' := 16) ⟨_, rfl⟩ ml_10_84 (rest := []) rfl (fun ss hs => ⟨_, _, (az_e 1 rfl) ss hs⟩) (Nat.le_of_ble_eq_true rfl) rfl rfl h (fun V1 hg1 h => ?_)
    exact h
theorem r_Reader_deepen {B : Nat} {r : Nat} {d : Nat} {V : ax_V} {Φ : ax_V → Prop} {Θ : ax_V → Prop} (hg : ax_g V) (h : ((V 600 11 < 20 → ax_rg ((V 600 11) + 1) ∧ (∀ V1, V1 = ax_u V 600 11 ((V 600 11) + 1) → Φ V1)) ∧ (20 ≤ V 600 11 → ax_N (az_W B (az_ER B r)) d q_Reader_refuse [.ref r] V (fun V2 => ax_rg ((V2 600 11) + 1) ∧ (∀ V3, V3 = ax_u V2 600 11 ((V2 600 11) + 1) → Φ V3)) Θ))) : ax_N (az_W B (az_ER B r)) (d + 1) q_Reader_deepen [.ref r] V Φ Θ := by
  refine ax_T.of (M := m_Reader_deepen) rfl (Nat.le_of_ble_eq_true rfl) ?_
  refine ax_mv 0 0 [some (.ref r)] [] rfl ?_
  refine ax_mv 1 1 [some (.ref r)] [.ref r] rfl ?_
  refine ax_gI (kI := 11) (pc' := 4) ⟨_, rfl⟩ fl_10_239 (az_e 1 rfl) rfl rfl rfl ?_
  refine ax_bip (pc' := 6) ⟨_, rfl⟩ (by decide) rfl ?_
  refine ax_if2 (p1 := 13) (p2 := 9) ⟨_, rfl⟩ (by decide) rfl (hg _ _) (by decide) (fun hc => ?_) (fun hc => ?_)
  · have h := h.1 hc
    refine ax_mv 2 15 [some (.ref r)] [.ref r, .ref r] rfl ?_
    refine ax_gI (kI := 11) (pc' := 18) ⟨_, rfl⟩ fl_10_239 (az_e 1 rfl) rfl rfl rfl ?_
    refine ax_mv 1 19 [some (.ref r)] [ax_i 1, ax_i (V 600 11), .ref r] rfl ?_
    refine ax_add (pc' := 20) ⟨_, rfl⟩ rfl ?_
    obtain ⟨o1, h⟩ := h
    obtain ⟨V1, eV1⟩ : ∃ W9 : ax_V, W9 = ax_u V 600 11 ((V 600 11) + 1) := ⟨_, rfl⟩
    have h := h V1 eV1
    have hg1 : ax_g V1 := eV1 ▸ ax_u_g hg o1
    refine ax_pI (kI := 11) (pc' := 23) ⟨_, rfl⟩ fl_10_239 az_ok (az_e 1 rfl) rfl rfl rfl rfl eV1 rfl ?_
    exact ax_nret ⟨_, rfl⟩ rfl hg1 h
  · have h := h.2 (Int.not_lt.mp hc)
    refine ax_mv 1 10 [some (.ref r)] [.ref r] rfl ?_
    refine ax_callN (pc' := 13) ⟨_, rfl⟩ ml_10_84 (rest := []) rfl (fun ss hs => ⟨_, _, (az_e 1 rfl) ss hs⟩) (Nat.le_of_ble_eq_true rfl) rfl rfl h (fun V2 hg2 h => ?_)
    refine ax_mv 2 15 [some (.ref r)] [.ref r, .ref r] rfl ?_
    refine ax_gI (kI := 11) (pc' := 18) ⟨_, rfl⟩ fl_10_239 (az_e 1 rfl) rfl rfl rfl ?_
    refine ax_mv 1 19 [some (.ref r)] [ax_i 1, ax_i (V2 600 11), .ref r] rfl ?_
    refine ax_add (pc' := 20) ⟨_, rfl⟩ rfl ?_
    obtain ⟨o2, h⟩ := h
    obtain ⟨V3, eV3⟩ : ∃ W9 : ax_V, W9 = ax_u V2 600 11 ((V2 600 11) + 1) := ⟨_, rfl⟩
    have h := h V3 eV3
    have hg3 : ax_g V3 := eV3 ▸ ax_u_g hg2 o2
    refine ax_pI (kI := 11) (pc' := 23) ⟨_, rfl⟩ fl_10_239 az_ok (az_e 1 rfl) rfl rfl rfl rfl eV3 rfl ?_
    exact ax_nret ⟨_, rfl⟩ rfl hg3 h
abbrev k_Reader_readBehind_59 (B : Nat) (r : Nat) (d : Nat) (x1 : Int) (x2 : Int) (y3 : Option Value) (y4 : Option Value) (V : ax_V) (Φ : Int → ax_V → Prop) (Θ : ax_V → Prop) : Prop := ax_R (az_W B (az_ER B r)) ax_t d m_Reader_readBehind 59 [some (.ref r), some (ax_i x1), some (ax_i x2), y3, y4] [] V (ax_Ir Φ) Θ
set_option maxRecDepth 20000 in
theorem r_Reader_readBehind_59 {B : Nat} {r : Nat} {d : Nat} {V : ax_V} {Φ : Int → ax_V → Prop} {Θ : ax_V → Prop} {x1 : Int} {x2 : Int} {y3 : Option Value} {y4 : Option Value} (hg : ax_g V) (hx1 : ax_rg x1) (hx2 : ax_rg x2) (hy3 : ax_y y3) (hy4 : ax_y y4) (h : ax_I (az_W B (az_ER B r)) d q_Reader_readK [.ref r] V (fun r1 V1 => ((x1 = 6 → ax_rg ((V1 600 13) - 1) ∧ (∀ V5, V5 = ax_u V1 600 13 ((V1 600 13) - 1) → ax_rg ((V5 600 11) - 1) ∧ (∀ V6, V6 = ax_u V5 600 11 ((V5 600 11) - 1) → ax_I (az_W B (az_ER B r)) d q_Reader_addPart [.ref r, ax_i x1, ax_i x2, ax_i x2, ax_i 0] V6 (fun r7 V7 => (0 ≤ r7 ∧ r7 < 700) ∧ (∀ V8, V8 = ax_u V7 521 r7 r1 → Φ r7 V8)) Θ))) ∧ (¬ x1 = 6 → ax_rg ((V1 600 11) - 1) ∧ (∀ V2, V2 = ax_u V1 600 11 ((V1 600 11) - 1) → ax_I (az_W B (az_ER B r)) d q_Reader_addPart [.ref r, ax_i x1, ax_i x2, ax_i x2, ax_i 0] V2 (fun r3 V3 => (0 ≤ r3 ∧ r3 < 700) ∧ (∀ V4, V4 = ax_u V3 521 r3 r1 → Φ r3 V4)) Θ)))) Θ) : k_Reader_readBehind_59 B r d x1 x2 y3 y4 V Φ Θ := by
  refine ax_mv 1 60 [some (.ref r), some (ax_i x1), some (ax_i x2), y3, y4] [.ref r] rfl ?_
  refine ax_callI (pc' := 63) ⟨_, rfl⟩ ml_10_259 (rest := []) rfl (fun ss hs => ⟨_, _, (az_e 1 rfl) ss hs⟩) (Nat.le_of_ble_eq_true rfl) rfl rfl h (fun r1 V1 hg1 hr1 h => ?_)
  refine ax_sti (i := 0) (k := 3) (n := 1) (pc' := 64) (L' := [some (.ref r), some (ax_i x1), some (ax_i x2), some (ax_i r1), y4]) ⟨_, rfl⟩ rfl rfl rfl (Nat.le_of_ble_eq_true rfl) rfl rfl ?_
  refine ax_mv 1 65 [some (.ref r), some (ax_i x1), some (ax_i x2), some (ax_i r1), y4] [ax_i x1] rfl ?_
  refine ax_bip (pc' := 67) ⟨_, rfl⟩ (by decide) rfl ?_
  refine ax_if2 (p1 := 80) (p2 := 70) ⟨_, rfl⟩ (by decide) rfl hx1 (by decide) (fun hc => ?_) (fun hc => ?_)
  · have h := h.2 hc
    refine ax_mv 2 82 [some (.ref r), some (ax_i x1), some (ax_i x2), some (ax_i r1), y4] [.ref r, .ref r] rfl ?_
    refine ax_gI (kI := 11) (pc' := 85) ⟨_, rfl⟩ fl_10_239 (az_e 1 rfl) rfl rfl rfl ?_
    refine ax_mv 1 86 [some (.ref r), some (ax_i x1), some (ax_i x2), some (ax_i r1), y4] [ax_i 1, ax_i (V1 600 11), .ref r] rfl ?_
    refine ax_sub (pc' := 87) ⟨_, rfl⟩ rfl ?_
    obtain ⟨o1, h⟩ := h
    obtain ⟨V2, eV2⟩ : ∃ W9 : ax_V, W9 = ax_u V1 600 11 ((V1 600 11) - 1) := ⟨_, rfl⟩
    have h := h V2 eV2
    have hg2 : ax_g V2 := eV2 ▸ ax_u_g hg1 o1
    refine ax_pI (kI := 11) (pc' := 90) ⟨_, rfl⟩ fl_10_239 az_ok (az_e 1 rfl) rfl rfl rfl rfl eV2 rfl ?_
    refine ax_mv 5 95 [some (.ref r), some (ax_i x1), some (ax_i x2), some (ax_i r1), y4] [ax_i 0, ax_i x2, ax_i x2, ax_i x1, .ref r] rfl ?_
    refine ax_callI (pc' := 98) ⟨_, rfl⟩ ml_10_230 (rest := []) rfl (fun ss hs => ⟨_, _, (az_e 1 rfl) ss hs⟩) (Nat.le_of_ble_eq_true rfl) rfl rfl h (fun r3 V3 hg3 hr3 h => ?_)
    refine ax_sti (i := 0) (k := 4) (n := 2) (pc' := 100) (L' := [some (.ref r), some (ax_i x1), some (ax_i x2), some (ax_i r1), some (ax_i r3)]) ⟨_, rfl⟩ rfl rfl rfl (Nat.le_of_ble_eq_true rfl) rfl rfl ?_
    refine ax_mv 1 101 [some (.ref r), some (ax_i x1), some (ax_i x2), some (ax_i r1), some (ax_i r3)] [.ref r] rfl ?_
    refine ax_gR (v := .ref (B + 16)) (pc' := 104) ⟨_, rfl⟩ fl_10_35 (az_e 1 rfl) rfl rfl ?_
    refine ax_gR (v := .ref (B + 21)) (pc' := 107) ⟨_, rfl⟩ fl_10_233 (az_b 16 rfl) rfl rfl ?_
    refine ax_mv 2 110 [some (.ref r), some (ax_i x1), some (ax_i x2), some (ax_i r1), some (ax_i r3)] [ax_i r1, ax_i r3, .ref (B + 21)] rfl ?_
    obtain ⟨o2, h⟩ := h
    obtain ⟨V4, eV4⟩ : ∃ W9 : ax_V, W9 = ax_u V3 521 r3 r1 := ⟨_, rfl⟩
    have h := h V4 eV4
    have hg4 : ax_g V4 := eV4 ▸ ax_u_g hg3 hr1
    refine ax_ist (n := 700) (pc' := 111) ⟨_, rfl⟩ az_ok (az_b 21 rfl) (by decide) o2 eV4 rfl ?_
    refine ax_mv 1 113 [some (.ref r), some (ax_i x1), some (ax_i x2), some (ax_i r1), some (ax_i r3)] [ax_i r3] rfl ?_
    exact ax_iret ⟨_, rfl⟩ rfl rfl hr3 hg4 h
  · have h := h.1 (Classical.not_not.mp hc)
    refine ax_mv 2 72 [some (.ref r), some (ax_i x1), some (ax_i x2), some (ax_i r1), y4] [.ref r, .ref r] rfl ?_
    refine ax_gI (kI := 13) (pc' := 75) ⟨_, rfl⟩ fl_10_224 (az_e 1 rfl) rfl rfl rfl ?_
    refine ax_mv 1 76 [some (.ref r), some (ax_i x1), some (ax_i x2), some (ax_i r1), y4] [ax_i 1, ax_i (V1 600 13), .ref r] rfl ?_
    refine ax_sub (pc' := 77) ⟨_, rfl⟩ rfl ?_
    obtain ⟨o3, h⟩ := h
    obtain ⟨V5, eV5⟩ : ∃ W9 : ax_V, W9 = ax_u V1 600 13 ((V1 600 13) - 1) := ⟨_, rfl⟩
    have h := h V5 eV5
    have hg5 : ax_g V5 := eV5 ▸ ax_u_g hg1 o3
    refine ax_pI (kI := 13) (pc' := 80) ⟨_, rfl⟩ fl_10_224 az_ok (az_e 1 rfl) rfl rfl rfl rfl eV5 rfl ?_
    refine ax_mv 2 82 [some (.ref r), some (ax_i x1), some (ax_i x2), some (ax_i r1), y4] [.ref r, .ref r] rfl ?_
    refine ax_gI (kI := 11) (pc' := 85) ⟨_, rfl⟩ fl_10_239 (az_e 1 rfl) rfl rfl rfl ?_
    refine ax_mv 1 86 [some (.ref r), some (ax_i x1), some (ax_i x2), some (ax_i r1), y4] [ax_i 1, ax_i (V5 600 11), .ref r] rfl ?_
    refine ax_sub (pc' := 87) ⟨_, rfl⟩ rfl ?_
    obtain ⟨o4, h⟩ := h
    obtain ⟨V6, eV6⟩ : ∃ W9 : ax_V, W9 = ax_u V5 600 11 ((V5 600 11) - 1) := ⟨_, rfl⟩
    have h := h V6 eV6
    have hg6 : ax_g V6 := eV6 ▸ ax_u_g hg5 o4
    refine ax_pI (kI := 11) (pc' := 90) ⟨_, rfl⟩ fl_10_239 az_ok (az_e 1 rfl) rfl rfl rfl rfl eV6 rfl ?_
    refine ax_mv 5 95 [some (.ref r), some (ax_i x1), some (ax_i x2), some (ax_i r1), y4] [ax_i 0, ax_i x2, ax_i x2, ax_i x1, .ref r] rfl ?_
    refine ax_callI (pc' := 98) ⟨_, rfl⟩ ml_10_230 (rest := []) rfl (fun ss hs => ⟨_, _, (az_e 1 rfl) ss hs⟩) (Nat.le_of_ble_eq_true rfl) rfl rfl h (fun r7 V7 hg7 hr7 h => ?_)
    refine ax_sti (i := 0) (k := 4) (n := 2) (pc' := 100) (L' := [some (.ref r), some (ax_i x1), some (ax_i x2), some (ax_i r1), some (ax_i r7)]) ⟨_, rfl⟩ rfl rfl rfl (Nat.le_of_ble_eq_true rfl) rfl rfl ?_
    refine ax_mv 1 101 [some (.ref r), some (ax_i x1), some (ax_i x2), some (ax_i r1), some (ax_i r7)] [.ref r] rfl ?_
    refine ax_gR (v := .ref (B + 16)) (pc' := 104) ⟨_, rfl⟩ fl_10_35 (az_e 1 rfl) rfl rfl ?_
    refine ax_gR (v := .ref (B + 21)) (pc' := 107) ⟨_, rfl⟩ fl_10_233 (az_b 16 rfl) rfl rfl ?_
    refine ax_mv 2 110 [some (.ref r), some (ax_i x1), some (ax_i x2), some (ax_i r1), some (ax_i r7)] [ax_i r1, ax_i r7, .ref (B + 21)] rfl ?_
    obtain ⟨o5, h⟩ := h
    obtain ⟨V8, eV8⟩ : ∃ W9 : ax_V, W9 = ax_u V7 521 r7 r1 := ⟨_, rfl⟩
    have h := h V8 eV8
    have hg8 : ax_g V8 := eV8 ▸ ax_u_g hg7 hr1
    refine ax_ist (n := 700) (pc' := 111) ⟨_, rfl⟩ az_ok (az_b 21 rfl) (by decide) o5 eV8 rfl ?_
    refine ax_mv 1 113 [some (.ref r), some (ax_i x1), some (ax_i x2), some (ax_i r1), some (ax_i r7)] [ax_i r7] rfl ?_
    exact ax_iret ⟨_, rfl⟩ rfl rfl hr7 hg8 h
set_option maxRecDepth 20000 in
theorem r_Reader_readBehind {B : Nat} {r : Nat} {d : Nat} {V : ax_V} {Φ : Int → ax_V → Prop} {Θ : ax_V → Prop} {x1 : Int} (hg : ax_g V) (hx1 : ax_rg x1) (h : ax_I (az_W B (az_ER B r)) d q_Reader_atArrow [.ref r] V (fun r1 V1 => ((r1 = 0 → ((x1 = 6 → ((V1 600 10 = 0 → ax_N (az_W B (az_ER B r)) d q_Reader_deepen [.ref r] V1 (fun V9 => ax_rg ((V9 600 6) + 1) ∧ (∀ V10, V10 = ax_u V9 600 6 ((V9 600 6) + 1) → ((x1 = 6 → ax_rg ((V10 600 13) + 1) ∧ (∀ V11, V11 = ax_u V10 600 13 ((V10 600 13) + 1) → k_Reader_readBehind_59 B r d x1 (V 600 6) none none V11 Φ Θ)) ∧ (¬ x1 = 6 → k_Reader_readBehind_59 B r d x1 (V 600 6) none none V10 Φ Θ)))) Θ) ∧ (¬ V1 600 10 = 0 → ax_N (az_W B (az_ER B r)) d q_Reader_refuse [.ref r] V1 (fun V12 => ax_N (az_W B (az_ER B r)) d q_Reader_deepen [.ref r] V12 (fun V13 => ax_rg ((V13 600 6) + 1) ∧ (∀ V14, V14 = ax_u V13 600 6 ((V13 600 6) + 1) → ((x1 = 6 → ax_rg ((V14 600 13) + 1) ∧ (∀ V15, V15 = ax_u V14 600 13 ((V14 600 13) + 1) → k_Reader_readBehind_59 B r d x1 (V 600 6) none none V15 Φ Θ)) ∧ (¬ x1 = 6 → k_Reader_readBehind_59 B r d x1 (V 600 6) none none V14 Φ Θ)))) Θ) Θ))) ∧ (¬ x1 = 6 → ax_N (az_W B (az_ER B r)) d q_Reader_deepen [.ref r] V1 (fun V6 => ax_rg ((V6 600 6) + 1) ∧ (∀ V7, V7 = ax_u V6 600 6 ((V6 600 6) + 1) → ((x1 = 6 → ax_rg ((V7 600 13) + 1) ∧ (∀ V8, V8 = ax_u V7 600 13 ((V7 600 13) + 1) → k_Reader_readBehind_59 B r d x1 (V 600 6) none none V8 Φ Θ)) ∧ (¬ x1 = 6 → k_Reader_readBehind_59 B r d x1 (V 600 6) none none V7 Φ Θ)))) Θ))) ∧ (¬ r1 = 0 → ax_N (az_W B (az_ER B r)) d q_Reader_refuse [.ref r] V1 (fun V2 => ax_N (az_W B (az_ER B r)) d q_Reader_deepen [.ref r] V2 (fun V3 => ax_rg ((V3 600 6) + 1) ∧ (∀ V4, V4 = ax_u V3 600 6 ((V3 600 6) + 1) → ((x1 = 6 → ax_rg ((V4 600 13) + 1) ∧ (∀ V5, V5 = ax_u V4 600 13 ((V4 600 13) + 1) → k_Reader_readBehind_59 B r d x1 (V 600 6) none none V5 Φ Θ)) ∧ (¬ x1 = 6 → k_Reader_readBehind_59 B r d x1 (V 600 6) none none V4 Φ Θ)))) Θ) Θ))) Θ) : ax_I (az_W B (az_ER B r)) (d + 1) q_Reader_readBehind [.ref r, ax_i x1] V Φ Θ := by
  refine ax_T.of (M := m_Reader_readBehind) rfl (Nat.le_of_ble_eq_true rfl) ?_
  refine ax_mv 0 0 [some (.ref r), some (ax_i x1), none, none, none] [] rfl ?_
  refine ax_mv 1 1 [some (.ref r), some (ax_i x1), none, none, none] [.ref r] rfl ?_
  refine ax_gI (kI := 6) (pc' := 4) ⟨_, rfl⟩ fl_10_49 (az_e 1 rfl) rfl rfl rfl ?_
  refine ax_sti (i := 0) (k := 2) (n := 1) (pc' := 5) (L' := [some (.ref r), some (ax_i x1), some (ax_i (V 600 6)), none, none]) ⟨_, rfl⟩ rfl rfl rfl (Nat.le_of_ble_eq_true rfl) rfl rfl ?_
  refine ax_mv 1 6 [some (.ref r), some (ax_i x1), some (ax_i (V 600 6)), none, none] [.ref r] rfl ?_
  refine ax_callI (pc' := 9) ⟨_, rfl⟩ ml_10_245 (rest := []) rfl (fun ss hs => ⟨_, _, (az_e 1 rfl) ss hs⟩) (Nat.le_of_ble_eq_true rfl) rfl rfl h (fun r1 V1 hg1 hr1 h => ?_)
  refine ax_if (p1 := 25) (p2 := 12) ⟨_, rfl⟩ (by decide) rfl hr1 (fun hc => ?_) (fun hc => ?_)
  · have h := h.2 hc
    refine ax_mv 1 26 [some (.ref r), some (ax_i x1), some (ax_i (V 600 6)), none, none] [.ref r] rfl ?_
    refine ax_callN (pc' := 29) ⟨_, rfl⟩ ml_10_84 (rest := []) rfl (fun ss hs => ⟨_, _, (az_e 1 rfl) ss hs⟩) (Nat.le_of_ble_eq_true rfl) rfl rfl h (fun V2 hg2 h => ?_)
    refine ax_mv 1 30 [some (.ref r), some (ax_i x1), some (ax_i (V 600 6)), none, none] [.ref r] rfl ?_
    refine ax_callN (pc' := 33) ⟨_, rfl⟩ ml_10_249 (rest := []) rfl (fun ss hs => ⟨_, _, (az_e 1 rfl) ss hs⟩) (Nat.le_of_ble_eq_true rfl) rfl rfl h (fun V3 hg3 h => ?_)
    refine ax_mv 2 35 [some (.ref r), some (ax_i x1), some (ax_i (V 600 6)), none, none] [.ref r, .ref r] rfl ?_
    refine ax_gI (kI := 6) (pc' := 38) ⟨_, rfl⟩ fl_10_49 (az_e 1 rfl) rfl rfl rfl ?_
    refine ax_mv 1 39 [some (.ref r), some (ax_i x1), some (ax_i (V 600 6)), none, none] [ax_i 1, ax_i (V3 600 6), .ref r] rfl ?_
    refine ax_add (pc' := 40) ⟨_, rfl⟩ rfl ?_
    obtain ⟨o6, h⟩ := h
    obtain ⟨V4, eV4⟩ : ∃ W9 : ax_V, W9 = ax_u V3 600 6 ((V3 600 6) + 1) := ⟨_, rfl⟩
    have h := h V4 eV4
    have hg4 : ax_g V4 := eV4 ▸ ax_u_g hg3 o6
    refine ax_pI (kI := 6) (pc' := 43) ⟨_, rfl⟩ fl_10_49 az_ok (az_e 1 rfl) rfl rfl rfl rfl eV4 rfl ?_
    refine ax_mv 1 44 [some (.ref r), some (ax_i x1), some (ax_i (V 600 6)), none, none] [ax_i x1] rfl ?_
    refine ax_bip (pc' := 46) ⟨_, rfl⟩ (by decide) rfl ?_
    refine ax_if2 (p1 := 59) (p2 := 49) ⟨_, rfl⟩ (by decide) rfl hx1 (by decide) (fun hc => ?_) (fun hc => ?_)
    · have h := h.2 hc
      exact h
    · have h := h.1 (Classical.not_not.mp hc)
      refine ax_mv 2 51 [some (.ref r), some (ax_i x1), some (ax_i (V 600 6)), none, none] [.ref r, .ref r] rfl ?_
      refine ax_gI (kI := 13) (pc' := 54) ⟨_, rfl⟩ fl_10_224 (az_e 1 rfl) rfl rfl rfl ?_
      refine ax_mv 1 55 [some (.ref r), some (ax_i x1), some (ax_i (V 600 6)), none, none] [ax_i 1, ax_i (V4 600 13), .ref r] rfl ?_
      refine ax_add (pc' := 56) ⟨_, rfl⟩ rfl ?_
      obtain ⟨o7, h⟩ := h
      obtain ⟨V5, eV5⟩ : ∃ W9 : ax_V, W9 = ax_u V4 600 13 ((V4 600 13) + 1) := ⟨_, rfl⟩
      have h := h V5 eV5
      have hg5 : ax_g V5 := eV5 ▸ ax_u_g hg4 o7
      refine ax_pI (kI := 13) (pc' := 59) ⟨_, rfl⟩ fl_10_224 az_ok (az_e 1 rfl) rfl rfl rfl rfl eV5 rfl ?_
      exact h
  · have h := h.1 (Classical.not_not.mp hc)
    refine ax_mv 1 13 [some (.ref r), some (ax_i x1), some (ax_i (V 600 6)), none, none] [ax_i x1] rfl ?_
    refine ax_bip (pc' := 15) ⟨_, rfl⟩ (by decide) rfl ?_
    refine ax_if2 (p1 := 29) (p2 := 18) ⟨_, rfl⟩ (by decide) rfl hx1 (by decide) (fun hc => ?_) (fun hc => ?_)
    · have h := h.2 hc
      refine ax_mv 1 30 [some (.ref r), some (ax_i x1), some (ax_i (V 600 6)), none, none] [.ref r] rfl ?_
      refine ax_callN (pc' := 33) ⟨_, rfl⟩ ml_10_249 (rest := []) rfl (fun ss hs => ⟨_, _, (az_e 1 rfl) ss hs⟩) (Nat.le_of_ble_eq_true rfl) rfl rfl h (fun V6 hg6 h => ?_)
      refine ax_mv 2 35 [some (.ref r), some (ax_i x1), some (ax_i (V 600 6)), none, none] [.ref r, .ref r] rfl ?_
      refine ax_gI (kI := 6) (pc' := 38) ⟨_, rfl⟩ fl_10_49 (az_e 1 rfl) rfl rfl rfl ?_
      refine ax_mv 1 39 [some (.ref r), some (ax_i x1), some (ax_i (V 600 6)), none, none] [ax_i 1, ax_i (V6 600 6), .ref r] rfl ?_
      refine ax_add (pc' := 40) ⟨_, rfl⟩ rfl ?_
      obtain ⟨o8, h⟩ := h
      obtain ⟨V7, eV7⟩ : ∃ W9 : ax_V, W9 = ax_u V6 600 6 ((V6 600 6) + 1) := ⟨_, rfl⟩
      have h := h V7 eV7
      have hg7 : ax_g V7 := eV7 ▸ ax_u_g hg6 o8
      refine ax_pI (kI := 6) (pc' := 43) ⟨_, rfl⟩ fl_10_49 az_ok (az_e 1 rfl) rfl rfl rfl rfl eV7 rfl ?_
      refine ax_mv 1 44 [some (.ref r), some (ax_i x1), some (ax_i (V 600 6)), none, none] [ax_i x1] rfl ?_
      refine ax_bip (pc' := 46) ⟨_, rfl⟩ (by decide) rfl ?_
      refine ax_if2 (p1 := 59) (p2 := 49) ⟨_, rfl⟩ (by decide) rfl hx1 (by decide) (fun hc => ?_) (fun hc => ?_)
      · have h := h.2 hc
        exact h
      · have h := h.1 (Classical.not_not.mp hc)
        refine ax_mv 2 51 [some (.ref r), some (ax_i x1), some (ax_i (V 600 6)), none, none] [.ref r, .ref r] rfl ?_
        refine ax_gI (kI := 13) (pc' := 54) ⟨_, rfl⟩ fl_10_224 (az_e 1 rfl) rfl rfl rfl ?_
        refine ax_mv 1 55 [some (.ref r), some (ax_i x1), some (ax_i (V 600 6)), none, none] [ax_i 1, ax_i (V7 600 13), .ref r] rfl ?_
        refine ax_add (pc' := 56) ⟨_, rfl⟩ rfl ?_
        obtain ⟨o9, h⟩ := h
        obtain ⟨V8, eV8⟩ : ∃ W9 : ax_V, W9 = ax_u V7 600 13 ((V7 600 13) + 1) := ⟨_, rfl⟩
        have h := h V8 eV8
        have hg8 : ax_g V8 := eV8 ▸ ax_u_g hg7 o9
        refine ax_pI (kI := 13) (pc' := 59) ⟨_, rfl⟩ fl_10_224 az_ok (az_e 1 rfl) rfl rfl rfl rfl eV8 rfl ?_
        exact h
    · have h := h.1 (Classical.not_not.mp hc)
      refine ax_mv 1 19 [some (.ref r), some (ax_i x1), some (ax_i (V 600 6)), none, none] [.ref r] rfl ?_
      refine ax_gI (kI := 10) (pc' := 22) ⟨_, rfl⟩ fl_10_199 (az_e 1 rfl) rfl rfl rfl ?_
      refine ax_if (p1 := 29) (p2 := 25) ⟨_, rfl⟩ (by decide) rfl (hg1 _ _) (fun hc => ?_) (fun hc => ?_)
      · have h := h.1 hc
        refine ax_mv 1 30 [some (.ref r), some (ax_i x1), some (ax_i (V 600 6)), none, none] [.ref r] rfl ?_
        refine ax_callN (pc' := 33) ⟨_, rfl⟩ ml_10_249 (rest := []) rfl (fun ss hs => ⟨_, _, (az_e 1 rfl) ss hs⟩) (Nat.le_of_ble_eq_true rfl) rfl rfl h (fun V9 hg9 h => ?_)
        refine ax_mv 2 35 [some (.ref r), some (ax_i x1), some (ax_i (V 600 6)), none, none] [.ref r, .ref r] rfl ?_
        refine ax_gI (kI := 6) (pc' := 38) ⟨_, rfl⟩ fl_10_49 (az_e 1 rfl) rfl rfl rfl ?_
        refine ax_mv 1 39 [some (.ref r), some (ax_i x1), some (ax_i (V 600 6)), none, none] [ax_i 1, ax_i (V9 600 6), .ref r] rfl ?_
        refine ax_add (pc' := 40) ⟨_, rfl⟩ rfl ?_
        obtain ⟨o10, h⟩ := h
        obtain ⟨V10, eV10⟩ : ∃ W9 : ax_V, W9 = ax_u V9 600 6 ((V9 600 6) + 1) := ⟨_, rfl⟩
        have h := h V10 eV10
        have hg10 : ax_g V10 := eV10 ▸ ax_u_g hg9 o10
        refine ax_pI (kI := 6) (pc' := 43) ⟨_, rfl⟩ fl_10_49 az_ok (az_e 1 rfl) rfl rfl rfl rfl eV10 rfl ?_
        refine ax_mv 1 44 [some (.ref r), some (ax_i x1), some (ax_i (V 600 6)), none, none] [ax_i x1] rfl ?_
        refine ax_bip (pc' := 46) ⟨_, rfl⟩ (by decide) rfl ?_
        refine ax_if2 (p1 := 59) (p2 := 49) ⟨_, rfl⟩ (by decide) rfl hx1 (by decide) (fun hc => ?_) (fun hc => ?_)
        · have h := h.2 hc
          exact h
        · have h := h.1 (Classical.not_not.mp hc)
          refine ax_mv 2 51 [some (.ref r), some (ax_i x1), some (ax_i (V 600 6)), none, none] [.ref r, .ref r] rfl ?_
          refine ax_gI (kI := 13) (pc' := 54) ⟨_, rfl⟩ fl_10_224 (az_e 1 rfl) rfl rfl rfl ?_
          refine ax_mv 1 55 [some (.ref r), some (ax_i x1), some (ax_i (V 600 6)), none, none] [ax_i 1, ax_i (V10 600 13), .ref r] rfl ?_
          refine ax_add (pc' := 56) ⟨_, rfl⟩ rfl ?_
          obtain ⟨o11, h⟩ := h
          obtain ⟨V11, eV11⟩ : ∃ W9 : ax_V, W9 = ax_u V10 600 13 ((V10 600 13) + 1) := ⟨_, rfl⟩
          have h := h V11 eV11
          have hg11 : ax_g V11 := eV11 ▸ ax_u_g hg10 o11
          refine ax_pI (kI := 13) (pc' := 59) ⟨_, rfl⟩ fl_10_224 az_ok (az_e 1 rfl) rfl rfl rfl rfl eV11 rfl ?_
          exact h
      · have h := h.2 hc
        refine ax_mv 1 26 [some (.ref r), some (ax_i x1), some (ax_i (V 600 6)), none, none] [.ref r] rfl ?_
        refine ax_callN (pc' := 29) ⟨_, rfl⟩ ml_10_84 (rest := []) rfl (fun ss hs => ⟨_, _, (az_e 1 rfl) ss hs⟩) (Nat.le_of_ble_eq_true rfl) rfl rfl h (fun V12 hg12 h => ?_)
        refine ax_mv 1 30 [some (.ref r), some (ax_i x1), some (ax_i (V 600 6)), none, none] [.ref r] rfl ?_
        refine ax_callN (pc' := 33) ⟨_, rfl⟩ ml_10_249 (rest := []) rfl (fun ss hs => ⟨_, _, (az_e 1 rfl) ss hs⟩) (Nat.le_of_ble_eq_true rfl) rfl rfl h (fun V13 hg13 h => ?_)
        refine ax_mv 2 35 [some (.ref r), some (ax_i x1), some (ax_i (V 600 6)), none, none] [.ref r, .ref r] rfl ?_
        refine ax_gI (kI := 6) (pc' := 38) ⟨_, rfl⟩ fl_10_49 (az_e 1 rfl) rfl rfl rfl ?_
        refine ax_mv 1 39 [some (.ref r), some (ax_i x1), some (ax_i (V 600 6)), none, none] [ax_i 1, ax_i (V13 600 6), .ref r] rfl ?_
        refine ax_add (pc' := 40) ⟨_, rfl⟩ rfl ?_
        obtain ⟨o12, h⟩ := h
        obtain ⟨V14, eV14⟩ : ∃ W9 : ax_V, W9 = ax_u V13 600 6 ((V13 600 6) + 1) := ⟨_, rfl⟩
        have h := h V14 eV14
        have hg14 : ax_g V14 := eV14 ▸ ax_u_g hg13 o12
        refine ax_pI (kI := 6) (pc' := 43) ⟨_, rfl⟩ fl_10_49 az_ok (az_e 1 rfl) rfl rfl rfl rfl eV14 rfl ?_
        refine ax_mv 1 44 [some (.ref r), some (ax_i x1), some (ax_i (V 600 6)), none, none] [ax_i x1] rfl ?_
        refine ax_bip (pc' := 46) ⟨_, rfl⟩ (by decide) rfl ?_
        refine ax_if2 (p1 := 59) (p2 := 49) ⟨_, rfl⟩ (by decide) rfl hx1 (by decide) (fun hc => ?_) (fun hc => ?_)
        · have h := h.2 hc
          exact h
        · have h := h.1 (Classical.not_not.mp hc)
          refine ax_mv 2 51 [some (.ref r), some (ax_i x1), some (ax_i (V 600 6)), none, none] [.ref r, .ref r] rfl ?_
          refine ax_gI (kI := 13) (pc' := 54) ⟨_, rfl⟩ fl_10_224 (az_e 1 rfl) rfl rfl rfl ?_
          refine ax_mv 1 55 [some (.ref r), some (ax_i x1), some (ax_i (V 600 6)), none, none] [ax_i 1, ax_i (V14 600 13), .ref r] rfl ?_
          refine ax_add (pc' := 56) ⟨_, rfl⟩ rfl ?_
          obtain ⟨o13, h⟩ := h
          obtain ⟨V15, eV15⟩ : ∃ W9 : ax_V, W9 = ax_u V14 600 13 ((V14 600 13) + 1) := ⟨_, rfl⟩
          have h := h V15 eV15
          have hg15 : ax_g V15 := eV15 ▸ ax_u_g hg14 o13
          refine ax_pI (kI := 13) (pc' := 59) ⟨_, rfl⟩ fl_10_224 az_ok (az_e 1 rfl) rfl rfl rfl rfl eV15 rfl ?_
          exact h
theorem r_Reader_atArrow {B : Nat} {r : Nat} {d : Nat} {V : ax_V} {Φ : Int → ax_V → Prop} {Θ : ax_V → Prop} (hg : ax_g V) (h : ax_I (az_W B (az_ER B r)) d q_Reader_look [.ref r] V (fun r1 V1 => ((r1 = 45 → ax_rg ((V1 600 6) + 1) ∧ ((V1 600 1 ≤ (V1 600 6) + 1 → Φ 0 V1) ∧ ((V1 600 6) + 1 < V1 600 1 → (0 ≤ (V1 600 6) + 1 ∧ (V1 600 6) + 1 < 700) ∧ ((V1 1 ((V1 600 6) + 1) = 62 → Φ 1 V1) ∧ (¬ V1 1 ((V1 600 6) + 1) = 62 → Φ 0 V1))))) ∧ (¬ r1 = 45 → Φ 0 V1))) Θ) : ax_I (az_W B (az_ER B r)) (d + 1) q_Reader_atArrow [.ref r] V Φ Θ := by
  refine ax_T.of (M := m_Reader_atArrow) rfl (Nat.le_of_ble_eq_true rfl) ?_
  refine ax_mv 0 0 [some (.ref r)] [] rfl ?_
  refine ax_mv 1 1 [some (.ref r)] [.ref r] rfl ?_
  refine ax_callI (pc' := 4) ⟨_, rfl⟩ ml_10_56 (rest := []) rfl (fun ss hs => ⟨_, _, (az_e 1 rfl) ss hs⟩) (Nat.le_of_ble_eq_true rfl) rfl rfl h (fun r1 V1 hg1 hr1 h => ?_)
  refine ax_bip (pc' := 6) ⟨_, rfl⟩ (by decide) rfl ?_
  refine ax_if2 (p1 := 42) (p2 := 9) ⟨_, rfl⟩ (by decide) rfl hr1 (by decide) (fun hc => ?_) (fun hc => ?_)
  · have h := h.2 hc
    refine ax_mv 1 43 [some (.ref r)] [ax_i 0] rfl ?_
    exact ax_iret ⟨_, rfl⟩ rfl (ax_nbv (by decide)) (by decide) hg1 h
  · have h := h.1 (Classical.not_not.mp hc)
    refine ax_mv 1 10 [some (.ref r)] [.ref r] rfl ?_
    refine ax_gI (kI := 6) (pc' := 13) ⟨_, rfl⟩ fl_10_49 (az_e 1 rfl) rfl rfl rfl ?_
    refine ax_mv 1 14 [some (.ref r)] [ax_i 1, ax_i (V1 600 6)] rfl ?_
    refine ax_add (pc' := 15) ⟨_, rfl⟩ rfl ?_
    refine ax_mv 1 16 [some (.ref r)] [.ref r, ax_i ((V1 600 6) + 1)] rfl ?_
    refine ax_gI (kI := 1) (pc' := 19) ⟨_, rfl⟩ fl_10_22 (az_e 1 rfl) rfl rfl rfl ?_
    obtain ⟨o1, h⟩ := h
    refine ax_if2 (p1 := 42) (p2 := 22) ⟨_, rfl⟩ (by decide) rfl o1 (hg1 _ _) (fun hc => ?_) (fun hc => ?_)
    · have h := h.1 hc
      refine ax_mv 1 43 [some (.ref r)] [ax_i 0] rfl ?_
      exact ax_iret ⟨_, rfl⟩ rfl (ax_nbv (by decide)) (by decide) hg1 h
    · have h := h.2 (Int.not_le.mp hc)
      refine ax_mv 1 23 [some (.ref r)] [.ref r] rfl ?_
      refine ax_gR (v := .ref 1) (pc' := 26) ⟨_, rfl⟩ fl_10_18 (az_e 1 rfl) rfl rfl ?_
      refine ax_mv 1 27 [some (.ref r)] [.ref r, .ref 1] rfl ?_
      refine ax_gI (kI := 6) (pc' := 30) ⟨_, rfl⟩ fl_10_49 (az_e 1 rfl) rfl rfl rfl ?_
      refine ax_mv 1 31 [some (.ref r)] [ax_i 1, ax_i (V1 600 6), .ref 1] rfl ?_
      refine ax_add (pc' := 32) ⟨_, rfl⟩ rfl ?_
      obtain ⟨o2, h⟩ := h
      refine ax_cld (n := 700) (pc' := 33) ⟨_, rfl⟩ (az_e 0 rfl) (by decide) o2 rfl ?_
      refine ax_bip (pc' := 35) ⟨_, rfl⟩ (by decide) rfl ?_
      refine ax_if2 (p1 := 42) (p2 := 38) ⟨_, rfl⟩ (by decide) rfl (hg1 _ _) (by decide) (fun hc => ?_) (fun hc => ?_)
      · have h := h.2 hc
        refine ax_mv 1 43 [some (.ref r)] [ax_i 0] rfl ?_
        exact ax_iret ⟨_, rfl⟩ rfl (ax_nbv (by decide)) (by decide) hg1 h
      · have h := h.1 (Classical.not_not.mp hc)
        refine ax_mv 2 43 [some (.ref r)] [ax_i 1] rfl ?_
        exact ax_iret ⟨_, rfl⟩ rfl (ax_nbv (by decide)) (by decide) hg1 h
theorem r_Reader_readWithin {B : Nat} {r : Nat} {d : Nat} {V : ax_V} {Φ : Int → ax_V → Prop} {Θ : ax_V → Prop} (hg : ax_g V) (h : ax_N (az_W B (az_ER B r)) d q_Reader_deepen [.ref r] V (fun V1 => ax_rg ((V1 600 6) + 1) ∧ (∀ V2, V2 = ax_u V1 600 6 ((V1 600 6) + 1) → ax_rg ((V2 600 12) + 1) ∧ (∀ V3, V3 = ax_u V2 600 12 ((V2 600 12) + 1) → ax_I (az_W B (az_ER B r)) d q_Reader_readX [.ref r] V3 (fun r4 V4 => ax_N (az_W B (az_ER B r)) d q_Reader_expect [.ref r, ax_i 41] V4 (fun V5 => ax_rg ((V5 600 12) - 1) ∧ (∀ V6, V6 = ax_u V5 600 12 ((V5 600 12) - 1) → ax_rg ((V6 600 11) - 1) ∧ (∀ V7, V7 = ax_u V6 600 11 ((V6 600 11) - 1) → (0 ≤ r4 ∧ r4 < 700) ∧ (∀ V8, V8 = ax_u V7 518 r4 (V 600 6) → Φ r4 V8)))) Θ) Θ))) Θ) : ax_I (az_W B (az_ER B r)) (d + 1) q_Reader_readWithin [.ref r] V Φ Θ := by
  refine ax_T.of (M := m_Reader_readWithin) rfl (Nat.le_of_ble_eq_true rfl) ?_
  refine ax_mv 0 0 [some (.ref r), none, none] [] rfl ?_
  refine ax_mv 1 1 [some (.ref r), none, none] [.ref r] rfl ?_
  refine ax_gI (kI := 6) (pc' := 4) ⟨_, rfl⟩ fl_10_49 (az_e 1 rfl) rfl rfl rfl ?_
  refine ax_sti (i := 0) (k := 1) (n := 1) (pc' := 5) (L' := [some (.ref r), some (ax_i (V 600 6)), none]) ⟨_, rfl⟩ rfl rfl rfl (Nat.le_of_ble_eq_true rfl) rfl rfl ?_
  refine ax_mv 1 6 [some (.ref r), some (ax_i (V 600 6)), none] [.ref r] rfl ?_
  refine ax_callN (pc' := 9) ⟨_, rfl⟩ ml_10_249 (rest := []) rfl (fun ss hs => ⟨_, _, (az_e 1 rfl) ss hs⟩) (Nat.le_of_ble_eq_true rfl) rfl rfl h (fun V1 hg1 h => ?_)
  refine ax_mv 2 11 [some (.ref r), some (ax_i (V 600 6)), none] [.ref r, .ref r] rfl ?_
  refine ax_gI (kI := 6) (pc' := 14) ⟨_, rfl⟩ fl_10_49 (az_e 1 rfl) rfl rfl rfl ?_
  refine ax_mv 1 15 [some (.ref r), some (ax_i (V 600 6)), none] [ax_i 1, ax_i (V1 600 6), .ref r] rfl ?_
  refine ax_add (pc' := 16) ⟨_, rfl⟩ rfl ?_
  obtain ⟨o1, h⟩ := h
  obtain ⟨V2, eV2⟩ : ∃ W9 : ax_V, W9 = ax_u V1 600 6 ((V1 600 6) + 1) := ⟨_, rfl⟩
  have h := h V2 eV2
  have hg2 : ax_g V2 := eV2 ▸ ax_u_g hg1 o1
  refine ax_pI (kI := 6) (pc' := 19) ⟨_, rfl⟩ fl_10_49 az_ok (az_e 1 rfl) rfl rfl rfl rfl eV2 rfl ?_
  refine ax_mv 2 21 [some (.ref r), some (ax_i (V 600 6)), none] [.ref r, .ref r] rfl ?_
  refine ax_gI (kI := 12) (pc' := 24) ⟨_, rfl⟩ fl_10_271 (az_e 1 rfl) rfl rfl rfl ?_
  refine ax_mv 1 25 [some (.ref r), some (ax_i (V 600 6)), none] [ax_i 1, ax_i (V2 600 12), .ref r] rfl ?_
  refine ax_add (pc' := 26) ⟨_, rfl⟩ rfl ?_
  obtain ⟨o2, h⟩ := h
  obtain ⟨V3, eV3⟩ : ∃ W9 : ax_V, W9 = ax_u V2 600 12 ((V2 600 12) + 1) := ⟨_, rfl⟩
  have h := h V3 eV3
  have hg3 : ax_g V3 := eV3 ▸ ax_u_g hg2 o2
  refine ax_pI (kI := 12) (pc' := 29) ⟨_, rfl⟩ fl_10_271 az_ok (az_e 1 rfl) rfl rfl rfl rfl eV3 rfl ?_
  refine ax_mv 1 30 [some (.ref r), some (ax_i (V 600 6)), none] [.ref r] rfl ?_
  refine ax_callI (pc' := 33) ⟨_, rfl⟩ ml_10_166 (rest := []) rfl (fun ss hs => ⟨_, _, (az_e 1 rfl) ss hs⟩) (Nat.le_of_ble_eq_true rfl) rfl rfl h (fun r4 V4 hg4 hr4 h => ?_)
  refine ax_sti (i := 0) (k := 2) (n := 1) (pc' := 34) (L' := [some (.ref r), some (ax_i (V 600 6)), some (ax_i r4)]) ⟨_, rfl⟩ rfl rfl rfl (Nat.le_of_ble_eq_true rfl) rfl rfl ?_
  refine ax_mv 1 35 [some (.ref r), some (ax_i (V 600 6)), some (ax_i r4)] [.ref r] rfl ?_
  refine ax_bip (pc' := 37) ⟨_, rfl⟩ (by decide) rfl ?_
  refine ax_callN (pc' := 40) ⟨_, rfl⟩ ml_10_70 (rest := []) rfl (fun ss hs => ⟨_, _, (az_e 1 rfl) ss hs⟩) (Nat.le_of_ble_eq_true rfl) rfl rfl h (fun V5 hg5 h => ?_)
  refine ax_mv 2 42 [some (.ref r), some (ax_i (V 600 6)), some (ax_i r4)] [.ref r, .ref r] rfl ?_
  refine ax_gI (kI := 12) (pc' := 45) ⟨_, rfl⟩ fl_10_271 (az_e 1 rfl) rfl rfl rfl ?_
  refine ax_mv 1 46 [some (.ref r), some (ax_i (V 600 6)), some (ax_i r4)] [ax_i 1, ax_i (V5 600 12), .ref r] rfl ?_
  refine ax_sub (pc' := 47) ⟨_, rfl⟩ rfl ?_
  obtain ⟨o3, h⟩ := h
  obtain ⟨V6, eV6⟩ : ∃ W9 : ax_V, W9 = ax_u V5 600 12 ((V5 600 12) - 1) := ⟨_, rfl⟩
  have h := h V6 eV6
  have hg6 : ax_g V6 := eV6 ▸ ax_u_g hg5 o3
  refine ax_pI (kI := 12) (pc' := 50) ⟨_, rfl⟩ fl_10_271 az_ok (az_e 1 rfl) rfl rfl rfl rfl eV6 rfl ?_
  refine ax_mv 2 52 [some (.ref r), some (ax_i (V 600 6)), some (ax_i r4)] [.ref r, .ref r] rfl ?_
  refine ax_gI (kI := 11) (pc' := 55) ⟨_, rfl⟩ fl_10_239 (az_e 1 rfl) rfl rfl rfl ?_
  refine ax_mv 1 56 [some (.ref r), some (ax_i (V 600 6)), some (ax_i r4)] [ax_i 1, ax_i (V6 600 11), .ref r] rfl ?_
  refine ax_sub (pc' := 57) ⟨_, rfl⟩ rfl ?_
  obtain ⟨o4, h⟩ := h
  obtain ⟨V7, eV7⟩ : ∃ W9 : ax_V, W9 = ax_u V6 600 11 ((V6 600 11) - 1) := ⟨_, rfl⟩
  have h := h V7 eV7
  have hg7 : ax_g V7 := eV7 ▸ ax_u_g hg6 o4
  refine ax_pI (kI := 11) (pc' := 60) ⟨_, rfl⟩ fl_10_239 az_ok (az_e 1 rfl) rfl rfl rfl rfl eV7 rfl ?_
  refine ax_mv 1 61 [some (.ref r), some (ax_i (V 600 6)), some (ax_i r4)] [.ref r] rfl ?_
  refine ax_gR (v := .ref (B + 16)) (pc' := 64) ⟨_, rfl⟩ fl_10_35 (az_e 1 rfl) rfl rfl ?_
  refine ax_gR (v := .ref (B + 18)) (pc' := 67) ⟨_, rfl⟩ fl_10_227 (az_b 16 rfl) rfl rfl ?_
  refine ax_mv 2 69 [some (.ref r), some (ax_i (V 600 6)), some (ax_i r4)] [ax_i (V 600 6), ax_i r4, .ref (B + 18)] rfl ?_
  obtain ⟨o5, h⟩ := h
  obtain ⟨V8, eV8⟩ : ∃ W9 : ax_V, W9 = ax_u V7 518 r4 (V 600 6) := ⟨_, rfl⟩
  have h := h V8 eV8
  have hg8 : ax_g V8 := eV8 ▸ ax_u_g hg7 (hg _ _)
  refine ax_ist (n := 700) (pc' := 70) ⟨_, rfl⟩ az_ok (az_b 18 rfl) (by decide) o5 eV8 rfl ?_
  refine ax_mv 1 71 [some (.ref r), some (ax_i (V 600 6)), some (ax_i r4)] [ax_i r4] rfl ?_
  exact ax_iret ⟨_, rfl⟩ rfl rfl hr4 hg8 h
