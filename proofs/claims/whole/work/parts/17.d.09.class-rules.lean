/-! RULES of the methods of the class: a method each, and each loop of it. PRINTED by wip/gen/rules.py -/
abbrev k_Planner_plan_2 (B : Nat) (r : Nat) (d : Nat) (x1 : Int) (V : ax_V) (Φ : ax_V → Prop) (Θ : ax_V → Prop) : Prop := ax_R (az_W B (az_EL B r)) ax_t d m_Planner_plan 2 [some (.ref r), some (ax_i x1)] [] V (ax_Nr Φ) Θ
theorem r_Planner_plan_2 {B : Nat} {r : Nat} {d : Nat} {V : ax_V} {Φ : ax_V → Prop} {Θ : ax_V → Prop} {x1 : Int} (hg : ax_g V) (hx1 : ax_rg x1) (h : ((V 500 0 ≤ x1 → Φ V) ∧ (x1 < V 500 0 → ax_N (az_W B (az_EL B r)) d q_Planner_count [.ref r, ax_i x1] V (fun V1 => (0 ≤ x1 ∧ x1 < 9) ∧ (∀ V2, V2 = ax_u V1 511 x1 (V1 602 5) → ax_I (az_W B (az_EL B r)) d q_Program_canMake [.ref B, ax_i x1] V2 (fun r3 V3 => ((r3 = 0 → (0 ≤ x1 + 1 ∧ x1 + 1 < 9) ∧ (∀ V4, V4 = ax_u V3 511 (x1 + 1) (V3 602 5) → k_Planner_plan_2 B r d (x1 + 1) V4 Φ Θ)) ∧ (¬ r3 = 0 → ax_N (az_W B (az_EL B r)) d q_Planner_layOut [.ref r, ax_i x1] V3 (fun V5 => ax_N (az_W B (az_EL B r)) d q_Planner_fillFirstMemory [.ref r, ax_i x1] V5 (fun V6 => ax_N (az_W B (az_EL B r)) d q_Planner_settleClocks [.ref r, ax_i x1] V6 (fun V7 => ax_N (az_W B (az_EL B r)) d q_Planner_schedule [.ref r, ax_i x1] V7 (fun V8 => (0 ≤ x1 + 1 ∧ x1 + 1 < 9) ∧ (∀ V9, V9 = ax_u V8 511 (x1 + 1) (V8 602 5) → k_Planner_plan_2 B r d (x1 + 1) V9 Φ Θ)) Θ) Θ) Θ) Θ))) Θ)) Θ))) : k_Planner_plan_2 B r d x1 V Φ Θ := by
  refine ax_mv 2 4 [some (.ref r), some (ax_i x1)] [.ref r, ax_i x1] rfl ?_
  refine ax_gR (v := .ref B) (pc' := 7) ⟨_, rfl⟩ fl_7_9 (az_e 0 rfl) rfl rfl ?_
  refine ax_gI (kI := 0) (pc' := 10) ⟨_, rfl⟩ fl_7_37 (az_b 0 rfl) rfl rfl rfl ?_
  refine ax_if2 (p1 := 83) (p2 := 13) ⟨_, rfl⟩ (by decide) rfl hx1 (hg _ _) (fun hc => ?_) (fun hc => ?_)
  · have h := h.1 hc
    exact ax_nret ⟨_, rfl⟩ rfl hg h
  · have h := h.2 (Int.not_le.mp hc)
    refine ax_mv 2 15 [some (.ref r), some (ax_i x1)] [ax_i x1, .ref r] rfl ?_
    refine ax_callN (pc' := 18) ⟨_, rfl⟩ ml_7_41 (rest := []) rfl (fun ss hs => ⟨_, _, (az_e 0 rfl) ss hs⟩) (Nat.le_of_ble_eq_true rfl) rfl rfl h (fun V1 hg1 h => ?_)
    refine ax_mv 1 19 [some (.ref r), some (ax_i x1)] [.ref r] rfl ?_
    refine ax_gR (v := .ref B) (pc' := 22) ⟨_, rfl⟩ fl_7_9 (az_e 0 rfl) rfl rfl ?_
    refine ax_gR (v := .ref (B + 11)) (pc' := 25) ⟨_, rfl⟩ fl_7_45 (az_b 0 rfl) rfl rfl ?_
    refine ax_mv 2 27 [some (.ref r), some (ax_i x1)] [.ref r, ax_i x1, .ref (B + 11)] rfl ?_
    refine ax_gI (kI := 5) (pc' := 30) ⟨_, rfl⟩ fl_7_49 (az_e 0 rfl) rfl rfl rfl ?_
    obtain ⟨o1, h⟩ := h
    obtain ⟨V2, eV2⟩ : ∃ W9 : ax_V, W9 = ax_u V1 511 x1 (V1 602 5) := ⟨_, rfl⟩
    have h := h V2 eV2
    have hg2 : ax_g V2 := eV2 ▸ ax_u_g hg1 (hg1 _ _)
    refine ax_ist (n := 9) (pc' := 31) ⟨_, rfl⟩ az_ok (az_b 11 rfl) (by decide) o1 eV2 rfl ?_
    refine ax_mv 1 32 [some (.ref r), some (ax_i x1)] [.ref r] rfl ?_
    refine ax_gR (v := .ref B) (pc' := 35) ⟨_, rfl⟩ fl_7_9 (az_e 0 rfl) rfl rfl ?_
    refine ax_mv 1 36 [some (.ref r), some (ax_i x1)] [ax_i x1, .ref B] rfl ?_
    refine ax_callI (pc' := 39) ⟨_, rfl⟩ ml_7_52 (rest := []) rfl (fun ss hs => ⟨_, _, (az_b 0 rfl) ss hs⟩) (Nat.le_of_ble_eq_true rfl) rfl rfl h (fun r3 V3 hg3 hr3 h => ?_)
    refine ax_if (p1 := 62) (p2 := 42) ⟨_, rfl⟩ (by decide) rfl hr3 (fun hc => ?_) (fun hc => ?_)
    · have h := h.1 hc
      refine ax_mv 1 63 [some (.ref r), some (ax_i x1)] [.ref r] rfl ?_
      refine ax_gR (v := .ref B) (pc' := 66) ⟨_, rfl⟩ fl_7_9 (az_e 0 rfl) rfl rfl ?_
      refine ax_gR (v := .ref (B + 11)) (pc' := 69) ⟨_, rfl⟩ fl_7_45 (az_b 0 rfl) rfl rfl ?_
      refine ax_mv 2 71 [some (.ref r), some (ax_i x1)] [ax_i 1, ax_i x1, .ref (B + 11)] rfl ?_
      refine ax_add (pc' := 72) ⟨_, rfl⟩ rfl ?_
      refine ax_mv 1 73 [some (.ref r), some (ax_i x1)] [.ref r, ax_i (x1 + 1), .ref (B + 11)] rfl ?_
      refine ax_gI (kI := 5) (pc' := 76) ⟨_, rfl⟩ fl_7_49 (az_e 0 rfl) rfl rfl rfl ?_
      obtain ⟨o2, h⟩ := h
      obtain ⟨V4, eV4⟩ : ∃ W9 : ax_V, W9 = ax_u V3 511 (x1 + 1) (V3 602 5) := ⟨_, rfl⟩
      have h := h V4 eV4
      have hg4 : ax_g V4 := eV4 ▸ ax_u_g hg3 (hg3 _ _)
      refine ax_ist (n := 9) (pc' := 77) ⟨_, rfl⟩ az_ok (az_b 11 rfl) (by decide) o2 eV4 rfl ?_
      refine ax_inc (x := x1) (pc' := 80) (L' := [some (.ref r), some (ax_i (x1 + 1))]) ⟨_, rfl⟩ rfl rfl rfl rfl ?_
      refine ax_mv 1 2 [some (.ref r), some (ax_i (x1 + 1))] [] rfl ?_
      exact h
    · have h := h.2 hc
      refine ax_mv 2 44 [some (.ref r), some (ax_i x1)] [ax_i x1, .ref r] rfl ?_
      refine ax_callN (pc' := 47) ⟨_, rfl⟩ ml_7_56 (rest := []) rfl (fun ss hs => ⟨_, _, (az_e 0 rfl) ss hs⟩) (Nat.le_of_ble_eq_true rfl) rfl rfl h (fun V5 hg5 h => ?_)
      refine ax_mv 2 49 [some (.ref r), some (ax_i x1)] [ax_i x1, .ref r] rfl ?_
      refine ax_callN (pc' := 52) ⟨_, rfl⟩ ml_7_59 (rest := []) rfl (fun ss hs => ⟨_, _, (az_e 0 rfl) ss hs⟩) (Nat.le_of_ble_eq_true rfl) rfl rfl h (fun V6 hg6 h => ?_)
      refine ax_mv 2 54 [some (.ref r), some (ax_i x1)] [ax_i x1, .ref r] rfl ?_
      refine ax_callN (pc' := 57) ⟨_, rfl⟩ ml_7_62 (rest := []) rfl (fun ss hs => ⟨_, _, (az_e 0 rfl) ss hs⟩) (Nat.le_of_ble_eq_true rfl) rfl rfl h (fun V7 hg7 h => ?_)
      refine ax_mv 2 59 [some (.ref r), some (ax_i x1)] [ax_i x1, .ref r] rfl ?_
      refine ax_callN (pc' := 62) ⟨_, rfl⟩ ml_7_65 (rest := []) rfl (fun ss hs => ⟨_, _, (az_e 0 rfl) ss hs⟩) (Nat.le_of_ble_eq_true rfl) rfl rfl h (fun V8 hg8 h => ?_)
      refine ax_mv 1 63 [some (.ref r), some (ax_i x1)] [.ref r] rfl ?_
      refine ax_gR (v := .ref B) (pc' := 66) ⟨_, rfl⟩ fl_7_9 (az_e 0 rfl) rfl rfl ?_
      refine ax_gR (v := .ref (B + 11)) (pc' := 69) ⟨_, rfl⟩ fl_7_45 (az_b 0 rfl) rfl rfl ?_
      refine ax_mv 2 71 [some (.ref r), some (ax_i x1)] [ax_i 1, ax_i x1, .ref (B + 11)] rfl ?_
      refine ax_add (pc' := 72) ⟨_, rfl⟩ rfl ?_
      refine ax_mv 1 73 [some (.ref r), some (ax_i x1)] [.ref r, ax_i (x1 + 1), .ref (B + 11)] rfl ?_
      refine ax_gI (kI := 5) (pc' := 76) ⟨_, rfl⟩ fl_7_49 (az_e 0 rfl) rfl rfl rfl ?_
      obtain ⟨o3, h⟩ := h
      obtain ⟨V9, eV9⟩ : ∃ W9 : ax_V, W9 = ax_u V8 511 (x1 + 1) (V8 602 5) := ⟨_, rfl⟩
      have h := h V9 eV9
      have hg9 : ax_g V9 := eV9 ▸ ax_u_g hg8 (hg8 _ _)
      refine ax_ist (n := 9) (pc' := 77) ⟨_, rfl⟩ az_ok (az_b 11 rfl) (by decide) o3 eV9 rfl ?_
      refine ax_inc (x := x1) (pc' := 80) (L' := [some (.ref r), some (ax_i (x1 + 1))]) ⟨_, rfl⟩ rfl rfl rfl rfl ?_
      refine ax_mv 1 2 [some (.ref r), some (ax_i (x1 + 1))] [] rfl ?_
      exact h
theorem r_Planner_plan {B : Nat} {r : Nat} {d : Nat} {V : ax_V} {Φ : ax_V → Prop} {Θ : ax_V → Prop} (hg : ax_g V) (h : k_Planner_plan_2 B r d 0 V Φ Θ) : ax_N (az_W B (az_EL B r)) (d + 1) q_Planner_plan [.ref r] V Φ Θ := by
  refine ax_T.of (M := m_Planner_plan) rfl (Nat.le_of_ble_eq_true rfl) ?_
  refine ax_mv 0 0 [some (.ref r), none] [] rfl ?_
  refine ax_mv 1 1 [some (.ref r), none] [ax_i 0] rfl ?_
  refine ax_sti (i := 0) (k := 1) (n := 1) (pc' := 2) (L' := [some (.ref r), some (ax_i 0)]) ⟨_, rfl⟩ rfl rfl rfl (Nat.le_of_ble_eq_true rfl) rfl rfl ?_
  exact h
abbrev k_Planner_count_35 (B : Nat) (r : Nat) (d : Nat) (x1 : Int) (x2 : Int) (x3 : Int) (x4 : Int) (V : ax_V) (Φ : ax_V → Prop) (Θ : ax_V → Prop) : Prop := ax_R (az_W B (az_EL B r)) ax_t d m_Planner_count 35 [some (.ref r), some (ax_i x1), some (ax_i x2), some (ax_i x3), some (ax_i x4)] [] V (ax_Nr Φ) Θ
abbrev k_Planner_count_115 (B : Nat) (r : Nat) (d : Nat) (x1 : Int) (x2 : Int) (x3 : Int) (x4 : Int) (V : ax_V) (Φ : ax_V → Prop) (Θ : ax_V → Prop) : Prop := ax_R (az_W B (az_EL B r)) ax_t d m_Planner_count 115 [some (.ref r), some (ax_i x1), some (ax_i x2), some (ax_i x3), some (ax_i x4)] [] V (ax_Nr Φ) Θ
set_option maxRecDepth 20000 in
theorem r_Planner_count_35 {B : Nat} {r : Nat} {d : Nat} {V : ax_V} {Φ : ax_V → Prop} {Θ : ax_V → Prop} {x1 : Int} {x2 : Int} {x3 : Int} {x4 : Int} (hg : ax_g V) (hx1 : ax_rg x1) (hx2 : ax_rg x2) (hx3 : ax_rg x3) (hx4 : ax_rg x4) (h : (0 ≤ x1 + 1 ∧ x1 + 1 < 9) ∧ ((V 508 (x1 + 1) ≤ x4 → k_Planner_count_115 B r d x1 x2 x3 (x1 * 26) V Φ Θ) ∧ (x4 < V 508 (x1 + 1) → ax_I (az_W B (az_EL B r)) d q_Planner_valuesOf [.ref r, ax_i x4] V (fun r1 V1 => ax_rg (x3 + r1) ∧ ax_I (az_W B (az_EL B r)) d q_Parts_isCall [.ref (B + 16), ax_i x4] V1 (fun r2 V2 => ((r2 = 0 → k_Planner_count_35 B r d x1 x2 (if x3 + r1 < 1000000 then x3 + r1 else 1000000) (x4 + 1) V2 Φ Θ) ∧ (¬ r2 = 0 → (0 ≤ x4 ∧ x4 < 700) ∧ (0 ≤ V2 520 x4 ∧ V2 520 x4 < 8) ∧ ax_rg (x2 + (V2 513 (V2 520 x4))) ∧ k_Planner_count_35 B r d x1 (if x2 + (V2 513 (V2 520 x4)) < 1000000 then x2 + (V2 513 (V2 520 x4)) else 1000000) (if x3 + r1 < 1000000 then x3 + r1 else 1000000) (x4 + 1) V2 Φ Θ))) Θ) Θ))) : k_Planner_count_35 B r d x1 x2 x3 x4 V Φ Θ := by
  refine ax_mv 2 38 [some (.ref r), some (ax_i x1), some (ax_i x2), some (ax_i x3), some (ax_i x4)] [.ref r, ax_i x4] rfl ?_
  refine ax_gR (v := .ref B) (pc' := 41) ⟨_, rfl⟩ fl_7_9 (az_e 0 rfl) rfl rfl ?_
  refine ax_gR (v := .ref (B + 8)) (pc' := 44) ⟨_, rfl⟩ fl_7_71 (az_b 0 rfl) rfl rfl ?_
  refine ax_mv 2 46 [some (.ref r), some (ax_i x1), some (ax_i x2), some (ax_i x3), some (ax_i x4)] [ax_i 1, ax_i x1, .ref (B + 8), ax_i x4] rfl ?_
  refine ax_add (pc' := 47) ⟨_, rfl⟩ rfl ?_
  obtain ⟨o1, h⟩ := h
  refine ax_ild (n := 9) (pc' := 48) ⟨_, rfl⟩ (az_b 8 rfl) (by decide) o1 rfl ?_
  refine ax_if2 (p1 := 109) (p2 := 51) ⟨_, rfl⟩ (by decide) rfl hx4 (hg _ _) (fun hc => ?_) (fun hc => ?_)
  · have h := h.1 hc
    refine ax_mv 1 110 [some (.ref r), some (ax_i x1), some (ax_i x2), some (ax_i x3), some (ax_i x4)] [ax_i x1] rfl ?_
    refine ax_bip (pc' := 112) ⟨_, rfl⟩ (by decide) rfl ?_
    refine ax_mul (pc' := 113) ⟨_, rfl⟩ rfl ?_
    refine ax_sti (i := 0) (k := 4) (n := 2) (pc' := 115) (L' := [some (.ref r), some (ax_i x1), some (ax_i x2), some (ax_i x3), some (ax_i (x1 * 26))]) ⟨_, rfl⟩ rfl rfl rfl (Nat.le_of_ble_eq_true rfl) rfl rfl ?_
    exact h
  · have h := h.2 (Int.not_le.mp hc)
    refine ax_ldc (pc' := 53) (n := 1000000) ⟨_, rfl⟩ rfl (by decide) rfl ?_
    refine ax_mv 3 57 [some (.ref r), some (ax_i x1), some (ax_i x2), some (ax_i x3), some (ax_i x4)] [ax_i x4, .ref r, ax_i x3, ax_i 1000000] rfl ?_
    refine ax_callI (pc' := 60) ⟨_, rfl⟩ ml_7_75 (rest := [ax_i x3, ax_i 1000000]) rfl (fun ss hs => ⟨_, _, (az_e 0 rfl) ss hs⟩) (Nat.le_of_ble_eq_true rfl) rfl rfl h (fun r1 V1 hg1 hr1 h => ?_)
    refine ax_add (pc' := 61) ⟨_, rfl⟩ rfl ?_
    obtain ⟨o2, h⟩ := h
    refine ax_min (pc' := 64) ⟨_, rfl⟩ ml_7_79 (by decide) o2 (Nat.le_of_ble_eq_true rfl) rfl ?_
    refine ax_sti (i := 0) (k := 3) (n := 1) (pc' := 65) (L' := [some (.ref r), some (ax_i x1), some (ax_i x2), some (ax_i (if x3 + r1 < 1000000 then x3 + r1 else 1000000)), some (ax_i x4)]) ⟨_, rfl⟩ rfl rfl rfl (Nat.le_of_ble_eq_true rfl) rfl rfl ?_
    refine ax_mv 1 66 [some (.ref r), some (ax_i x1), some (ax_i x2), some (ax_i (if x3 + r1 < 1000000 then x3 + r1 else 1000000)), some (ax_i x4)] [.ref r] rfl ?_
    refine ax_gR (v := .ref (B + 16)) (pc' := 69) ⟨_, rfl⟩ fl_7_21 (az_e 0 rfl) rfl rfl ?_
    refine ax_mv 1 71 [some (.ref r), some (ax_i x1), some (ax_i x2), some (ax_i (if x3 + r1 < 1000000 then x3 + r1 else 1000000)), some (ax_i x4)] [ax_i x4, .ref (B + 16)] rfl ?_
    refine ax_callI (pc' := 74) ⟨_, rfl⟩ ml_7_85 (rest := []) rfl (fun ss hs => ⟨_, _, (az_b 16 rfl) ss hs⟩) (Nat.le_of_ble_eq_true rfl) rfl rfl h (fun r2 V2 hg2 hr2 h => ?_)
    refine ax_if (p1 := 103) (p2 := 77) ⟨_, rfl⟩ (by decide) rfl hr2 (fun hc => ?_) (fun hc => ?_)
    · have h := h.1 hc
      refine ax_inc (x := x4) (pc' := 106) (L' := [some (.ref r), some (ax_i x1), some (ax_i x2), some (ax_i (if x3 + r1 < 1000000 then x3 + r1 else 1000000)), some (ax_i (x4 + 1))]) ⟨_, rfl⟩ rfl rfl rfl rfl ?_
      refine ax_mv 1 35 [some (.ref r), some (ax_i x1), some (ax_i x2), some (ax_i (if x3 + r1 < 1000000 then x3 + r1 else 1000000)), some (ax_i (x4 + 1))] [] rfl ?_
      exact h
    · have h := h.2 hc
      refine ax_ldc (pc' := 79) (n := 1000000) ⟨_, rfl⟩ rfl (by decide) rfl ?_
      refine ax_mv 2 81 [some (.ref r), some (ax_i x1), some (ax_i x2), some (ax_i (if x3 + r1 < 1000000 then x3 + r1 else 1000000)), some (ax_i x4)] [.ref r, ax_i x2, ax_i 1000000] rfl ?_
      refine ax_gR (v := .ref B) (pc' := 84) ⟨_, rfl⟩ fl_7_9 (az_e 0 rfl) rfl rfl ?_
      refine ax_gR (v := .ref (B + 13)) (pc' := 87) ⟨_, rfl⟩ fl_7_90 (az_b 0 rfl) rfl rfl ?_
      refine ax_mv 1 88 [some (.ref r), some (ax_i x1), some (ax_i x2), some (ax_i (if x3 + r1 < 1000000 then x3 + r1 else 1000000)), some (ax_i x4)] [.ref r, .ref (B + 13), ax_i x2, ax_i 1000000] rfl ?_
      refine ax_gR (v := .ref (B + 16)) (pc' := 91) ⟨_, rfl⟩ fl_7_21 (az_e 0 rfl) rfl rfl ?_
      refine ax_gR (v := .ref (B + 20)) (pc' := 94) ⟨_, rfl⟩ fl_7_93 (az_b 16 rfl) rfl rfl ?_
      refine ax_mv 1 96 [some (.ref r), some (ax_i x1), some (ax_i x2), some (ax_i (if x3 + r1 < 1000000 then x3 + r1 else 1000000)), some (ax_i x4)] [ax_i x4, .ref (B + 20), .ref (B + 13), ax_i x2, ax_i 1000000] rfl ?_
      obtain ⟨o3, h⟩ := h
      refine ax_ild (n := 700) (pc' := 97) ⟨_, rfl⟩ (az_b 20 rfl) (by decide) o3 rfl ?_
      obtain ⟨o4, h⟩ := h
      refine ax_ild (n := 8) (pc' := 98) ⟨_, rfl⟩ (az_b 13 rfl) (by decide) o4 rfl ?_
      refine ax_add (pc' := 99) ⟨_, rfl⟩ rfl ?_
      obtain ⟨o5, h⟩ := h
      refine ax_min (pc' := 102) ⟨_, rfl⟩ ml_7_79 (by decide) o5 (Nat.le_of_ble_eq_true rfl) rfl ?_
      refine ax_sti (i := 0) (k := 2) (n := 1) (pc' := 103) (L' := [some (.ref r), some (ax_i x1), some (ax_i (if x2 + (V2 513 (V2 520 x4)) < 1000000 then x2 + (V2 513 (V2 520 x4)) else 1000000)), some (ax_i (if x3 + r1 < 1000000 then x3 + r1 else 1000000)), some (ax_i x4)]) ⟨_, rfl⟩ rfl rfl rfl (Nat.le_of_ble_eq_true rfl) rfl rfl ?_
      refine ax_inc (x := x4) (pc' := 106) (L' := [some (.ref r), some (ax_i x1), some (ax_i (if x2 + (V2 513 (V2 520 x4)) < 1000000 then x2 + (V2 513 (V2 520 x4)) else 1000000)), some (ax_i (if x3 + r1 < 1000000 then x3 + r1 else 1000000)), some (ax_i (x4 + 1))]) ⟨_, rfl⟩ rfl rfl rfl rfl ?_
      refine ax_mv 1 35 [some (.ref r), some (ax_i x1), some (ax_i (if x2 + (V2 513 (V2 520 x4)) < 1000000 then x2 + (V2 513 (V2 520 x4)) else 1000000)), some (ax_i (if x3 + r1 < 1000000 then x3 + r1 else 1000000)), some (ax_i (x4 + 1))] [] rfl ?_
      exact h
set_option maxRecDepth 20000 in
theorem r_Planner_count_115 {B : Nat} {r : Nat} {d : Nat} {V : ax_V} {Φ : ax_V → Prop} {Θ : ax_V → Prop} {x1 : Int} {x2 : Int} {x3 : Int} {x4 : Int} (hg : ax_g V) (hx1 : ax_rg x1) (hx2 : ax_rg x2) (hx3 : ax_rg x3) (hx4 : ax_rg x4) (h : ax_rg ((x1 + 1) * 26) ∧ (((x1 + 1) * 26 ≤ x4 → (0 ≤ x1 ∧ x1 < 8) ∧ (∀ V1, V1 = ax_u V 513 x1 x2 → (0 ≤ x1 ∧ x1 < 8) ∧ (∀ V2, V2 = ax_u V1 514 x1 x3 → Φ V2))) ∧ (x4 < (x1 + 1) * 26 → (0 ≤ x4 ∧ x4 < 208) ∧ ((V 538 x4 = 0 → ax_rg (x3 + 0) ∧ k_Planner_count_115 B r d x1 x2 (if x3 + 0 < 1000000 then x3 + 0 else 1000000) (x4 + 1) V Φ Θ) ∧ (¬ V 538 x4 = 0 → ax_rg (x3 + 1) ∧ k_Planner_count_115 B r d x1 x2 (if x3 + 1 < 1000000 then x3 + 1 else 1000000) (x4 + 1) V Φ Θ))))) : k_Planner_count_115 B r d x1 x2 x3 x4 V Φ Θ := by
  refine ax_mv 3 119 [some (.ref r), some (ax_i x1), some (ax_i x2), some (ax_i x3), some (ax_i x4)] [ax_i 1, ax_i x1, ax_i x4] rfl ?_
  refine ax_add (pc' := 120) ⟨_, rfl⟩ rfl ?_
  refine ax_bip (pc' := 122) ⟨_, rfl⟩ (by decide) rfl ?_
  refine ax_mul (pc' := 123) ⟨_, rfl⟩ rfl ?_
  obtain ⟨o6, h⟩ := h
  refine ax_if2 (p1 := 158) (p2 := 126) ⟨_, rfl⟩ (by decide) rfl hx4 o6 (fun hc => ?_) (fun hc => ?_)
  · have h := h.1 hc
    refine ax_mv 1 159 [some (.ref r), some (ax_i x1), some (ax_i x2), some (ax_i x3), some (ax_i x4)] [.ref r] rfl ?_
    refine ax_gR (v := .ref B) (pc' := 162) ⟨_, rfl⟩ fl_7_9 (az_e 0 rfl) rfl rfl ?_
    refine ax_gR (v := .ref (B + 13)) (pc' := 165) ⟨_, rfl⟩ fl_7_90 (az_b 0 rfl) rfl rfl ?_
    refine ax_mv 2 167 [some (.ref r), some (ax_i x1), some (ax_i x2), some (ax_i x3), some (ax_i x4)] [ax_i x2, ax_i x1, .ref (B + 13)] rfl ?_
    obtain ⟨o7, h⟩ := h
    obtain ⟨V1, eV1⟩ : ∃ W9 : ax_V, W9 = ax_u V 513 x1 x2 := ⟨_, rfl⟩
    have h := h V1 eV1
    have hg1 : ax_g V1 := eV1 ▸ ax_u_g hg hx2
    refine ax_ist (n := 8) (pc' := 168) ⟨_, rfl⟩ az_ok (az_b 13 rfl) (by decide) o7 eV1 rfl ?_
    refine ax_mv 1 169 [some (.ref r), some (ax_i x1), some (ax_i x2), some (ax_i x3), some (ax_i x4)] [.ref r] rfl ?_
    refine ax_gR (v := .ref B) (pc' := 172) ⟨_, rfl⟩ fl_7_9 (az_e 0 rfl) rfl rfl ?_
    refine ax_gR (v := .ref (B + 14)) (pc' := 175) ⟨_, rfl⟩ fl_7_102 (az_b 0 rfl) rfl rfl ?_
    refine ax_mv 2 177 [some (.ref r), some (ax_i x1), some (ax_i x2), some (ax_i x3), some (ax_i x4)] [ax_i x3, ax_i x1, .ref (B + 14)] rfl ?_
    obtain ⟨o8, h⟩ := h
    obtain ⟨V2, eV2⟩ : ∃ W9 : ax_V, W9 = ax_u V1 514 x1 x3 := ⟨_, rfl⟩
    have h := h V2 eV2
    have hg2 : ax_g V2 := eV2 ▸ ax_u_g hg1 hx3
    refine ax_ist (n := 8) (pc' := 178) ⟨_, rfl⟩ az_ok (az_b 14 rfl) (by decide) o8 eV2 rfl ?_
    exact ax_nret ⟨_, rfl⟩ rfl hg2 h
  · have h := h.2 (Int.not_le.mp hc)
    refine ax_ldc (pc' := 128) (n := 1000000) ⟨_, rfl⟩ rfl (by decide) rfl ?_
    refine ax_mv 2 130 [some (.ref r), some (ax_i x1), some (ax_i x2), some (ax_i x3), some (ax_i x4)] [.ref r, ax_i x3, ax_i 1000000] rfl ?_
    refine ax_gR (v := .ref (B + 32)) (pc' := 133) ⟨_, rfl⟩ fl_7_26 (az_e 0 rfl) rfl rfl ?_
    refine ax_gR (v := .ref (B + 38)) (pc' := 136) ⟨_, rfl⟩ fl_7_96 (az_b 32 rfl) rfl rfl ?_
    refine ax_mv 1 138 [some (.ref r), some (ax_i x1), some (ax_i x2), some (ax_i x3), some (ax_i x4)] [ax_i x4, .ref (B + 38), ax_i x3, ax_i 1000000] rfl ?_
    obtain ⟨o9, h⟩ := h
    refine ax_bld (n := 208) (pc' := 139) ⟨_, rfl⟩ (az_b 38 rfl) (by decide) o9 rfl ?_
    refine ax_if (p1 := 146) (p2 := 142) ⟨_, rfl⟩ (by decide) rfl (hg _ _) (fun hc => ?_) (fun hc => ?_)
    · have h := h.1 hc
      refine ax_mv 1 147 [some (.ref r), some (ax_i x1), some (ax_i x2), some (ax_i x3), some (ax_i x4)] [ax_i 0, ax_i x3, ax_i 1000000] rfl ?_
      refine ax_add (pc' := 148) ⟨_, rfl⟩ rfl ?_
      obtain ⟨o10, h⟩ := h
      refine ax_min (pc' := 151) ⟨_, rfl⟩ ml_7_79 (by decide) o10 (Nat.le_of_ble_eq_true rfl) rfl ?_
      refine ax_sti (i := 0) (k := 3) (n := 1) (pc' := 152) (L' := [some (.ref r), some (ax_i x1), some (ax_i x2), some (ax_i (if x3 + 0 < 1000000 then x3 + 0 else 1000000)), some (ax_i x4)]) ⟨_, rfl⟩ rfl rfl rfl (Nat.le_of_ble_eq_true rfl) rfl rfl ?_
      refine ax_inc (x := x4) (pc' := 155) (L' := [some (.ref r), some (ax_i x1), some (ax_i x2), some (ax_i (if x3 + 0 < 1000000 then x3 + 0 else 1000000)), some (ax_i (x4 + 1))]) ⟨_, rfl⟩ rfl rfl rfl rfl ?_
      refine ax_mv 1 115 [some (.ref r), some (ax_i x1), some (ax_i x2), some (ax_i (if x3 + 0 < 1000000 then x3 + 0 else 1000000)), some (ax_i (x4 + 1))] [] rfl ?_
      exact h
    · have h := h.2 hc
      refine ax_mv 2 147 [some (.ref r), some (ax_i x1), some (ax_i x2), some (ax_i x3), some (ax_i x4)] [ax_i 1, ax_i x3, ax_i 1000000] rfl ?_
      refine ax_add (pc' := 148) ⟨_, rfl⟩ rfl ?_
      obtain ⟨o11, h⟩ := h
      refine ax_min (pc' := 151) ⟨_, rfl⟩ ml_7_79 (by decide) o11 (Nat.le_of_ble_eq_true rfl) rfl ?_
      refine ax_sti (i := 0) (k := 3) (n := 1) (pc' := 152) (L' := [some (.ref r), some (ax_i x1), some (ax_i x2), some (ax_i (if x3 + 1 < 1000000 then x3 + 1 else 1000000)), some (ax_i x4)]) ⟨_, rfl⟩ rfl rfl rfl (Nat.le_of_ble_eq_true rfl) rfl rfl ?_
      refine ax_inc (x := x4) (pc' := 155) (L' := [some (.ref r), some (ax_i x1), some (ax_i x2), some (ax_i (if x3 + 1 < 1000000 then x3 + 1 else 1000000)), some (ax_i (x4 + 1))]) ⟨_, rfl⟩ rfl rfl rfl rfl ?_
      refine ax_mv 1 115 [some (.ref r), some (ax_i x1), some (ax_i x2), some (ax_i (if x3 + 1 < 1000000 then x3 + 1 else 1000000)), some (ax_i (x4 + 1))] [] rfl ?_
      exact h
set_option maxRecDepth 20000 in
theorem r_Planner_count {B : Nat} {r : Nat} {d : Nat} {V : ax_V} {Φ : ax_V → Prop} {Θ : ax_V → Prop} {x1 : Int} (hg : ax_g V) (hx1 : ax_rg x1) (h : (0 ≤ x1 + 1 ∧ x1 + 1 < 9) ∧ (0 ≤ x1 ∧ x1 < 9) ∧ (0 ≤ x1 ∧ x1 < 9) ∧ k_Planner_count_35 B r d x1 1 ((V 510 (x1 + 1)) - (V 510 x1)) (V 508 x1) V Φ Θ) : ax_N (az_W B (az_EL B r)) (d + 1) q_Planner_count [.ref r, ax_i x1] V Φ Θ := by
  refine ax_T.of (M := m_Planner_count) rfl (Nat.le_of_ble_eq_true rfl) ?_
  refine ax_mv 0 0 [some (.ref r), some (ax_i x1), none, none, none] [] rfl ?_
  refine ax_mv 1 1 [some (.ref r), some (ax_i x1), none, none, none] [ax_i 1] rfl ?_
  refine ax_sti (i := 0) (k := 2) (n := 1) (pc' := 2) (L' := [some (.ref r), some (ax_i x1), some (ax_i 1), none, none]) ⟨_, rfl⟩ rfl rfl rfl (Nat.le_of_ble_eq_true rfl) rfl rfl ?_
  refine ax_mv 1 3 [some (.ref r), some (ax_i x1), some (ax_i 1), none, none] [.ref r] rfl ?_
  refine ax_gR (v := .ref B) (pc' := 6) ⟨_, rfl⟩ fl_7_9 (az_e 0 rfl) rfl rfl ?_
  refine ax_gR (v := .ref (B + 10)) (pc' := 9) ⟨_, rfl⟩ fl_7_68 (az_b 0 rfl) rfl rfl ?_
  refine ax_mv 2 11 [some (.ref r), some (ax_i x1), some (ax_i 1), none, none] [ax_i 1, ax_i x1, .ref (B + 10)] rfl ?_
  refine ax_add (pc' := 12) ⟨_, rfl⟩ rfl ?_
  obtain ⟨o12, h⟩ := h
  refine ax_ild (n := 9) (pc' := 13) ⟨_, rfl⟩ (az_b 10 rfl) (by decide) o12 rfl ?_
  refine ax_mv 1 14 [some (.ref r), some (ax_i x1), some (ax_i 1), none, none] [.ref r, ax_i (V 510 (x1 + 1))] rfl ?_
  refine ax_gR (v := .ref B) (pc' := 17) ⟨_, rfl⟩ fl_7_9 (az_e 0 rfl) rfl rfl ?_
  refine ax_gR (v := .ref (B + 10)) (pc' := 20) ⟨_, rfl⟩ fl_7_68 (az_b 0 rfl) rfl rfl ?_
  refine ax_mv 1 21 [some (.ref r), some (ax_i x1), some (ax_i 1), none, none] [ax_i x1, .ref (B + 10), ax_i (V 510 (x1 + 1))] rfl ?_
  obtain ⟨o13, h⟩ := h
  refine ax_ild (n := 9) (pc' := 22) ⟨_, rfl⟩ (az_b 10 rfl) (by decide) o13 rfl ?_
  refine ax_sub (pc' := 23) ⟨_, rfl⟩ rfl ?_
  refine ax_sti (i := 0) (k := 3) (n := 1) (pc' := 24) (L' := [some (.ref r), some (ax_i x1), some (ax_i 1), some (ax_i ((V 510 (x1 + 1)) - (V 510 x1))), none]) ⟨_, rfl⟩ rfl rfl rfl (Nat.le_of_ble_eq_true rfl) rfl rfl ?_
  refine ax_mv 1 25 [some (.ref r), some (ax_i x1), some (ax_i 1), some (ax_i ((V 510 (x1 + 1)) - (V 510 x1))), none] [.ref r] rfl ?_
  refine ax_gR (v := .ref B) (pc' := 28) ⟨_, rfl⟩ fl_7_9 (az_e 0 rfl) rfl rfl ?_
  refine ax_gR (v := .ref (B + 8)) (pc' := 31) ⟨_, rfl⟩ fl_7_71 (az_b 0 rfl) rfl rfl ?_
  refine ax_mv 1 32 [some (.ref r), some (ax_i x1), some (ax_i 1), some (ax_i ((V 510 (x1 + 1)) - (V 510 x1))), none] [ax_i x1, .ref (B + 8)] rfl ?_
  obtain ⟨o14, h⟩ := h
  refine ax_ild (n := 9) (pc' := 33) ⟨_, rfl⟩ (az_b 8 rfl) (by decide) o14 rfl ?_
  refine ax_sti (i := 0) (k := 4) (n := 2) (pc' := 35) (L' := [some (.ref r), some (ax_i x1), some (ax_i 1), some (ax_i ((V 510 (x1 + 1)) - (V 510 x1))), some (ax_i (V 508 x1))]) ⟨_, rfl⟩ rfl rfl rfl (Nat.le_of_ble_eq_true rfl) rfl rfl ?_
  exact h
theorem r_Planner_valuesOf {B : Nat} {r : Nat} {d : Nat} {V : ax_V} {Φ : Int → ax_V → Prop} {Θ : ax_V → Prop} {x1 : Int} (hg : ax_g V) (hx1 : ax_rg x1) (h : ax_I (az_W B (az_EL B r)) d q_Parts_isCall [.ref (B + 16), ax_i x1] V (fun r1 V1 => ((r1 = 0 → (0 ≤ x1 ∧ x1 < 700) ∧ ((V1 517 x1 = 6 → Φ 1 V1) ∧ (¬ V1 517 x1 = 6 → (0 ≤ x1 ∧ x1 < 700) ∧ ((V1 517 x1 = 19 → Φ 1 V1) ∧ (¬ V1 517 x1 = 19 → Φ 0 V1))))) ∧ (¬ r1 = 0 → (0 ≤ x1 ∧ x1 < 700) ∧ (0 ≤ V1 520 x1 ∧ V1 520 x1 < 8) ∧ Φ (V1 514 (V1 520 x1)) V1))) Θ) : ax_I (az_W B (az_EL B r)) (d + 1) q_Planner_valuesOf [.ref r, ax_i x1] V Φ Θ := by
  refine ax_T.of (M := m_Planner_valuesOf) rfl (Nat.le_of_ble_eq_true rfl) ?_
  refine ax_mv 0 0 [some (.ref r), some (ax_i x1)] [] rfl ?_
  refine ax_mv 1 1 [some (.ref r), some (ax_i x1)] [.ref r] rfl ?_
  refine ax_gR (v := .ref (B + 16)) (pc' := 4) ⟨_, rfl⟩ fl_7_21 (az_e 0 rfl) rfl rfl ?_
  refine ax_mv 1 5 [some (.ref r), some (ax_i x1)] [ax_i x1, .ref (B + 16)] rfl ?_
  refine ax_callI (pc' := 8) ⟨_, rfl⟩ ml_7_85 (rest := []) rfl (fun ss hs => ⟨_, _, (az_b 16 rfl) ss hs⟩) (Nat.le_of_ble_eq_true rfl) rfl rfl h (fun r1 V1 hg1 hr1 h => ?_)
  refine ax_if (p1 := 29) (p2 := 11) ⟨_, rfl⟩ (by decide) rfl hr1 (fun hc => ?_) (fun hc => ?_)
  · have h := h.1 hc
    refine ax_mv 1 30 [some (.ref r), some (ax_i x1)] [.ref r] rfl ?_
    refine ax_gR (v := .ref (B + 16)) (pc' := 33) ⟨_, rfl⟩ fl_7_21 (az_e 0 rfl) rfl rfl ?_
    refine ax_gR (v := .ref (B + 17)) (pc' := 36) ⟨_, rfl⟩ fl_7_105 (az_b 16 rfl) rfl rfl ?_
    refine ax_mv 1 37 [some (.ref r), some (ax_i x1)] [ax_i x1, .ref (B + 17)] rfl ?_
    obtain ⟨o1, h⟩ := h
    refine ax_ild (n := 700) (pc' := 38) ⟨_, rfl⟩ (az_b 17 rfl) (by decide) o1 rfl ?_
    refine ax_bip (pc' := 40) ⟨_, rfl⟩ (by decide) rfl ?_
    refine ax_if2 (p1 := 57) (p2 := 43) ⟨_, rfl⟩ (by decide) rfl (hg1 _ _) (by decide) (fun hc => ?_) (fun hc => ?_)
    · have h := h.1 hc
      refine ax_mv 2 62 [some (.ref r), some (ax_i x1)] [ax_i 1] rfl ?_
      exact ax_iret ⟨_, rfl⟩ rfl rfl (by decide) hg1 h
    · have h := h.2 hc
      refine ax_mv 1 44 [some (.ref r), some (ax_i x1)] [.ref r] rfl ?_
      refine ax_gR (v := .ref (B + 16)) (pc' := 47) ⟨_, rfl⟩ fl_7_21 (az_e 0 rfl) rfl rfl ?_
      refine ax_gR (v := .ref (B + 17)) (pc' := 50) ⟨_, rfl⟩ fl_7_105 (az_b 16 rfl) rfl rfl ?_
      refine ax_mv 1 51 [some (.ref r), some (ax_i x1)] [ax_i x1, .ref (B + 17)] rfl ?_
      obtain ⟨o2, h⟩ := h
      refine ax_ild (n := 700) (pc' := 52) ⟨_, rfl⟩ (az_b 17 rfl) (by decide) o2 rfl ?_
      refine ax_bip (pc' := 54) ⟨_, rfl⟩ (by decide) rfl ?_
      refine ax_if2 (p1 := 61) (p2 := 57) ⟨_, rfl⟩ (by decide) rfl (hg1 _ _) (by decide) (fun hc => ?_) (fun hc => ?_)
      · have h := h.2 hc
        refine ax_mv 1 62 [some (.ref r), some (ax_i x1)] [ax_i 0] rfl ?_
        exact ax_iret ⟨_, rfl⟩ rfl rfl (by decide) hg1 h
      · have h := h.1 (Classical.not_not.mp hc)
        refine ax_mv 2 62 [some (.ref r), some (ax_i x1)] [ax_i 1] rfl ?_
        exact ax_iret ⟨_, rfl⟩ rfl rfl (by decide) hg1 h
  · have h := h.2 hc
    refine ax_mv 1 12 [some (.ref r), some (ax_i x1)] [.ref r] rfl ?_
    refine ax_gR (v := .ref B) (pc' := 15) ⟨_, rfl⟩ fl_7_9 (az_e 0 rfl) rfl rfl ?_
    refine ax_gR (v := .ref (B + 14)) (pc' := 18) ⟨_, rfl⟩ fl_7_102 (az_b 0 rfl) rfl rfl ?_
    refine ax_mv 1 19 [some (.ref r), some (ax_i x1)] [.ref r, .ref (B + 14)] rfl ?_
    refine ax_gR (v := .ref (B + 16)) (pc' := 22) ⟨_, rfl⟩ fl_7_21 (az_e 0 rfl) rfl rfl ?_
    refine ax_gR (v := .ref (B + 20)) (pc' := 25) ⟨_, rfl⟩ fl_7_93 (az_b 16 rfl) rfl rfl ?_
    refine ax_mv 1 26 [some (.ref r), some (ax_i x1)] [ax_i x1, .ref (B + 20), .ref (B + 14)] rfl ?_
    obtain ⟨o3, h⟩ := h
    refine ax_ild (n := 700) (pc' := 27) ⟨_, rfl⟩ (az_b 20 rfl) (by decide) o3 rfl ?_
    obtain ⟨o4, h⟩ := h
    refine ax_ild (n := 8) (pc' := 28) ⟨_, rfl⟩ (az_b 14 rfl) (by decide) o4 rfl ?_
    exact ax_iret ⟨_, rfl⟩ rfl rfl (hg1 _ _) hg1 h
abbrev k_Planner_layOut_12 (B : Nat) (r : Nat) (d : Nat) (x1 : Int) (x2 : Int) (x3 : Int) (y4 : Option Value) (y5 : Option Value) (V : ax_V) (Φ : ax_V → Prop) (Θ : ax_V → Prop) : Prop := ax_R (az_W B (az_EL B r)) ax_t d m_Planner_layOut 12 [some (.ref r), some (ax_i x1), some (ax_i x2), some (ax_i x3), y4, y5] [] V (ax_Nr Φ) Θ
abbrev k_Planner_layOut_135 (B : Nat) (r : Nat) (d : Nat) (x1 : Int) (x2 : Int) (x3 : Int) (y4 : Option Value) (y5 : Option Value) (V : ax_V) (Φ : ax_V → Prop) (Θ : ax_V → Prop) : Prop := ax_R (az_W B (az_EL B r)) ax_t d m_Planner_layOut 135 [some (.ref r), some (ax_i x1), some (ax_i x2), some (ax_i x3), y4, y5] [] V (ax_Nr Φ) Θ
abbrev k_Planner_layOut_174 (B : Nat) (r : Nat) (d : Nat) (x1 : Int) (x2 : Int) (x3 : Int) (y4 : Option Value) (y5 : Option Value) (V : ax_V) (Φ : ax_V → Prop) (Θ : ax_V → Prop) : Prop := ax_R (az_W B (az_EL B r)) ax_t d m_Planner_layOut 174 [some (.ref r), some (ax_i x1), some (ax_i x2), some (ax_i x3), y4, y5] [] V (ax_Nr Φ) Θ
set_option maxRecDepth 20000 in
theorem r_Planner_layOut_12 {B : Nat} {r : Nat} {d : Nat} {V : ax_V} {Φ : ax_V → Prop} {Θ : ax_V → Prop} {x1 : Int} {x2 : Int} {x3 : Int} {y4 : Option Value} {y5 : Option Value} (hg : ax_g V) (hx1 : ax_rg x1) (hx2 : ax_rg x2) (hx3 : ax_rg x3) (hy4 : ax_y y4) (hy5 : ax_y y5) (h : (0 ≤ x1 + 1 ∧ x1 + 1 < 9) ∧ ((V 508 (x1 + 1) ≤ x3 → (0 ≤ x1 ∧ x1 < 9) ∧ k_Planner_layOut_135 B r d x1 x2 (V 510 x1) y4 y5 V Φ Θ) ∧ (x3 < V 508 (x1 + 1) → ax_I (az_W B (az_EL B r)) d q_Planner_valuesOf [.ref r, ax_i x3] V (fun r1 V1 => (0 ≤ x3 ∧ x3 < 700) ∧ (0 ≤ x3 ∧ x3 < 700) ∧ (∀ V2, V2 = ax_u V1 531 x3 x2 → ((V1 525 x3 = -1 → k_Planner_layOut_12 B r d x1 (x2 + r1) (x3 + 1) (some (ax_i r1)) (some (ax_i (V1 525 x3))) V2 Φ Θ) ∧ (¬ V1 525 x3 = -1 → ((r1 ≤ 0 → k_Planner_layOut_12 B r d x1 (x2 + r1) (x3 + 1) (some (ax_i r1)) (some (ax_i (V1 525 x3))) V2 Φ Θ) ∧ (0 < r1 → (0 ≤ V1 525 x3 ∧ V1 525 x3 < 350) ∧ (0 ≤ V1 525 x3 ∧ V1 525 x3 < 350) ∧ ((V2 566 (V1 525 x3) = V2 565 (V1 525 x3) → (0 ≤ V1 525 x3 ∧ V1 525 x3 < 350) ∧ (∀ V4, V4 = ax_u V2 565 (V1 525 x3) x2 → (0 ≤ V1 525 x3 ∧ V1 525 x3 < 350) ∧ ax_rg (x2 + r1) ∧ (∀ V5, V5 = ax_u V4 566 (V1 525 x3) (x2 + r1) → k_Planner_layOut_12 B r d x1 (x2 + r1) (x3 + 1) (some (ax_i r1)) (some (ax_i (V1 525 x3))) V5 Φ Θ))) ∧ (¬ V2 566 (V1 525 x3) = V2 565 (V1 525 x3) → (0 ≤ V1 525 x3 ∧ V1 525 x3 < 350) ∧ ax_rg (x2 + r1) ∧ (∀ V3, V3 = ax_u V2 566 (V1 525 x3) (x2 + r1) → k_Planner_layOut_12 B r d x1 (x2 + r1) (x3 + 1) (some (ax_i r1)) (some (ax_i (V1 525 x3))) V3 Φ Θ))))))))) Θ))) : k_Planner_layOut_12 B r d x1 x2 x3 y4 y5 V Φ Θ := by
  refine ax_mv 2 14 [some (.ref r), some (ax_i x1), some (ax_i x2), some (ax_i x3), y4, y5] [.ref r, ax_i x3] rfl ?_
  refine ax_gR (v := .ref B) (pc' := 17) ⟨_, rfl⟩ fl_7_9 (az_e 0 rfl) rfl rfl ?_
  refine ax_gR (v := .ref (B + 8)) (pc' := 20) ⟨_, rfl⟩ fl_7_71 (az_b 0 rfl) rfl rfl ?_
  refine ax_mv 2 22 [some (.ref r), some (ax_i x1), some (ax_i x2), some (ax_i x3), y4, y5] [ax_i 1, ax_i x1, .ref (B + 8), ax_i x3] rfl ?_
  refine ax_add (pc' := 23) ⟨_, rfl⟩ rfl ?_
  obtain ⟨o1, h⟩ := h
  refine ax_ild (n := 9) (pc' := 24) ⟨_, rfl⟩ (az_b 8 rfl) (by decide) o1 rfl ?_
  refine ax_if2 (p1 := 125) (p2 := 27) ⟨_, rfl⟩ (by decide) rfl hx3 (hg _ _) (fun hc => ?_) (fun hc => ?_)
  · have h := h.1 hc
    refine ax_mv 1 126 [some (.ref r), some (ax_i x1), some (ax_i x2), some (ax_i x3), y4, y5] [.ref r] rfl ?_
    refine ax_gR (v := .ref B) (pc' := 129) ⟨_, rfl⟩ fl_7_9 (az_e 0 rfl) rfl rfl ?_
    refine ax_gR (v := .ref (B + 10)) (pc' := 132) ⟨_, rfl⟩ fl_7_68 (az_b 0 rfl) rfl rfl ?_
    refine ax_mv 1 133 [some (.ref r), some (ax_i x1), some (ax_i x2), some (ax_i x3), y4, y5] [ax_i x1, .ref (B + 10)] rfl ?_
    obtain ⟨o2, h⟩ := h
    refine ax_ild (n := 9) (pc' := 134) ⟨_, rfl⟩ (az_b 10 rfl) (by decide) o2 rfl ?_
    refine ax_sti (i := 0) (k := 3) (n := 1) (pc' := 135) (L' := [some (.ref r), some (ax_i x1), some (ax_i x2), some (ax_i (V 510 x1)), y4, y5]) ⟨_, rfl⟩ rfl rfl rfl (Nat.le_of_ble_eq_true rfl) rfl rfl ?_
    exact h
  · have h := h.2 (Int.not_le.mp hc)
    refine ax_mv 2 29 [some (.ref r), some (ax_i x1), some (ax_i x2), some (ax_i x3), y4, y5] [ax_i x3, .ref r] rfl ?_
    refine ax_callI (pc' := 32) ⟨_, rfl⟩ ml_7_75 (rest := []) rfl (fun ss hs => ⟨_, _, (az_e 0 rfl) ss hs⟩) (Nat.le_of_ble_eq_true rfl) rfl rfl h (fun r1 V1 hg1 hr1 h => ?_)
    refine ax_sti (i := 0) (k := 4) (n := 2) (pc' := 34) (L' := [some (.ref r), some (ax_i x1), some (ax_i x2), some (ax_i x3), some (ax_i r1), y5]) ⟨_, rfl⟩ rfl rfl rfl (Nat.le_of_ble_eq_true rfl) rfl rfl ?_
    refine ax_mv 1 35 [some (.ref r), some (ax_i x1), some (ax_i x2), some (ax_i x3), some (ax_i r1), y5] [.ref r] rfl ?_
    refine ax_gR (v := .ref (B + 16)) (pc' := 38) ⟨_, rfl⟩ fl_7_21 (az_e 0 rfl) rfl rfl ?_
    refine ax_gR (v := .ref (B + 25)) (pc' := 41) ⟨_, rfl⟩ fl_7_108 (az_b 16 rfl) rfl rfl ?_
    refine ax_mv 1 42 [some (.ref r), some (ax_i x1), some (ax_i x2), some (ax_i x3), some (ax_i r1), y5] [ax_i x3, .ref (B + 25)] rfl ?_
    obtain ⟨o3, h⟩ := h
    refine ax_ild (n := 700) (pc' := 43) ⟨_, rfl⟩ (az_b 25 rfl) (by decide) o3 rfl ?_
    refine ax_sti (i := 0) (k := 5) (n := 2) (pc' := 45) (L' := [some (.ref r), some (ax_i x1), some (ax_i x2), some (ax_i x3), some (ax_i r1), some (ax_i (V1 525 x3))]) ⟨_, rfl⟩ rfl rfl rfl (Nat.le_of_ble_eq_true rfl) rfl rfl ?_
    refine ax_mv 1 46 [some (.ref r), some (ax_i x1), some (ax_i x2), some (ax_i x3), some (ax_i r1), some (ax_i (V1 525 x3))] [.ref r] rfl ?_
    refine ax_gR (v := .ref (B + 16)) (pc' := 49) ⟨_, rfl⟩ fl_7_21 (az_e 0 rfl) rfl rfl ?_
    refine ax_gR (v := .ref (B + 31)) (pc' := 52) ⟨_, rfl⟩ fl_7_111 (az_b 16 rfl) rfl rfl ?_
    refine ax_mv 2 54 [some (.ref r), some (ax_i x1), some (ax_i x2), some (ax_i x3), some (ax_i r1), some (ax_i (V1 525 x3))] [ax_i x2, ax_i x3, .ref (B + 31)] rfl ?_
    obtain ⟨o4, h⟩ := h
    obtain ⟨V2, eV2⟩ : ∃ W9 : ax_V, W9 = ax_u V1 531 x3 x2 := ⟨_, rfl⟩
    have h := h V2 eV2
    have hg2 : ax_g V2 := eV2 ▸ ax_u_g hg1 hx2
    refine ax_ist (n := 700) (pc' := 55) ⟨_, rfl⟩ az_ok (az_b 31 rfl) (by decide) o4 eV2 rfl ?_
    refine ax_mv 2 58 [some (.ref r), some (ax_i x1), some (ax_i x2), some (ax_i x3), some (ax_i r1), some (ax_i (V1 525 x3))] [ax_i (-1), ax_i (V1 525 x3)] rfl ?_
    refine ax_if2 (p1 := 114) (p2 := 61) ⟨_, rfl⟩ (by decide) rfl (hg1 _ _) (by decide) (fun hc => ?_) (fun hc => ?_)
    · have h := h.1 hc
      refine ax_mv 2 117 [some (.ref r), some (ax_i x1), some (ax_i x2), some (ax_i x3), some (ax_i r1), some (ax_i (V1 525 x3))] [ax_i r1, ax_i x2] rfl ?_
      refine ax_add (pc' := 118) ⟨_, rfl⟩ rfl ?_
      refine ax_sti (i := 0) (k := 2) (n := 1) (pc' := 119) (L' := [some (.ref r), some (ax_i x1), some (ax_i (x2 + r1)), some (ax_i x3), some (ax_i r1), some (ax_i (V1 525 x3))]) ⟨_, rfl⟩ rfl rfl rfl (Nat.le_of_ble_eq_true rfl) rfl rfl ?_
      refine ax_inc (x := x3) (pc' := 122) (L' := [some (.ref r), some (ax_i x1), some (ax_i (x2 + r1)), some (ax_i (x3 + 1)), some (ax_i r1), some (ax_i (V1 525 x3))]) ⟨_, rfl⟩ rfl rfl rfl rfl ?_
      refine ax_mv 1 12 [some (.ref r), some (ax_i x1), some (ax_i (x2 + r1)), some (ax_i (x3 + 1)), some (ax_i r1), some (ax_i (V1 525 x3))] [] rfl ?_
      exact h
    · have h := h.2 hc
      refine ax_mv 1 63 [some (.ref r), some (ax_i x1), some (ax_i x2), some (ax_i x3), some (ax_i r1), some (ax_i (V1 525 x3))] [ax_i r1] rfl ?_
      refine ax_if (p1 := 114) (p2 := 66) ⟨_, rfl⟩ (by decide) rfl hr1 (fun hc => ?_) (fun hc => ?_)
      · have h := h.1 hc
        refine ax_mv 2 117 [some (.ref r), some (ax_i x1), some (ax_i x2), some (ax_i x3), some (ax_i r1), some (ax_i (V1 525 x3))] [ax_i r1, ax_i x2] rfl ?_
        refine ax_add (pc' := 118) ⟨_, rfl⟩ rfl ?_
        refine ax_sti (i := 0) (k := 2) (n := 1) (pc' := 119) (L' := [some (.ref r), some (ax_i x1), some (ax_i (x2 + r1)), some (ax_i x3), some (ax_i r1), some (ax_i (V1 525 x3))]) ⟨_, rfl⟩ rfl rfl rfl (Nat.le_of_ble_eq_true rfl) rfl rfl ?_
        refine ax_inc (x := x3) (pc' := 122) (L' := [some (.ref r), some (ax_i x1), some (ax_i (x2 + r1)), some (ax_i (x3 + 1)), some (ax_i r1), some (ax_i (V1 525 x3))]) ⟨_, rfl⟩ rfl rfl rfl rfl ?_
        refine ax_mv 1 12 [some (.ref r), some (ax_i x1), some (ax_i (x2 + r1)), some (ax_i (x3 + 1)), some (ax_i r1), some (ax_i (V1 525 x3))] [] rfl ?_
        exact h
      · have h := h.2 (Int.not_le.mp hc)
        refine ax_mv 1 67 [some (.ref r), some (ax_i x1), some (ax_i x2), some (ax_i x3), some (ax_i r1), some (ax_i (V1 525 x3))] [.ref r] rfl ?_
        refine ax_gR (v := .ref (B + 56)) (pc' := 70) ⟨_, rfl⟩ fl_7_36 (az_e 0 rfl) rfl rfl ?_
        refine ax_gR (v := .ref (B + 66)) (pc' := 73) ⟨_, rfl⟩ fl_7_114 (az_b 56 rfl) rfl rfl ?_
        refine ax_mv 1 75 [some (.ref r), some (ax_i x1), some (ax_i x2), some (ax_i x3), some (ax_i r1), some (ax_i (V1 525 x3))] [ax_i (V1 525 x3), .ref (B + 66)] rfl ?_
        obtain ⟨o5, h⟩ := h
        refine ax_ild (n := 350) (pc' := 76) ⟨_, rfl⟩ (az_b 66 rfl) (by decide) o5 rfl ?_
        refine ax_mv 1 77 [some (.ref r), some (ax_i x1), some (ax_i x2), some (ax_i x3), some (ax_i r1), some (ax_i (V1 525 x3))] [.ref r, ax_i (V2 566 (V1 525 x3))] rfl ?_
        refine ax_gR (v := .ref (B + 56)) (pc' := 80) ⟨_, rfl⟩ fl_7_36 (az_e 0 rfl) rfl rfl ?_
        refine ax_gR (v := .ref (B + 65)) (pc' := 83) ⟨_, rfl⟩ fl_7_119 (az_b 56 rfl) rfl rfl ?_
        refine ax_mv 1 85 [some (.ref r), some (ax_i x1), some (ax_i x2), some (ax_i x3), some (ax_i r1), some (ax_i (V1 525 x3))] [ax_i (V1 525 x3), .ref (B + 65), ax_i (V2 566 (V1 525 x3))] rfl ?_
        obtain ⟨o6, h⟩ := h
        refine ax_ild (n := 350) (pc' := 86) ⟨_, rfl⟩ (az_b 65 rfl) (by decide) o6 rfl ?_
        refine ax_if2 (p1 := 100) (p2 := 89) ⟨_, rfl⟩ (by decide) rfl (hg2 _ _) (hg2 _ _) (fun hc => ?_) (fun hc => ?_)
        · have h := h.2 hc
          refine ax_mv 1 101 [some (.ref r), some (ax_i x1), some (ax_i x2), some (ax_i x3), some (ax_i r1), some (ax_i (V1 525 x3))] [.ref r] rfl ?_
          refine ax_gR (v := .ref (B + 56)) (pc' := 104) ⟨_, rfl⟩ fl_7_36 (az_e 0 rfl) rfl rfl ?_
          refine ax_gR (v := .ref (B + 66)) (pc' := 107) ⟨_, rfl⟩ fl_7_114 (az_b 56 rfl) rfl rfl ?_
          refine ax_mv 3 112 [some (.ref r), some (ax_i x1), some (ax_i x2), some (ax_i x3), some (ax_i r1), some (ax_i (V1 525 x3))] [ax_i r1, ax_i x2, ax_i (V1 525 x3), .ref (B + 66)] rfl ?_
          refine ax_add (pc' := 113) ⟨_, rfl⟩ rfl ?_
          obtain ⟨o7, o8, h⟩ := h
          obtain ⟨V3, eV3⟩ : ∃ W9 : ax_V, W9 = ax_u V2 566 (V1 525 x3) (x2 + r1) := ⟨_, rfl⟩
          have h := h V3 eV3
          have hg3 : ax_g V3 := eV3 ▸ ax_u_g hg2 o8
          refine ax_ist (n := 350) (pc' := 114) ⟨_, rfl⟩ az_ok (az_b 66 rfl) (by decide) o7 eV3 rfl ?_
          refine ax_mv 2 117 [some (.ref r), some (ax_i x1), some (ax_i x2), some (ax_i x3), some (ax_i r1), some (ax_i (V1 525 x3))] [ax_i r1, ax_i x2] rfl ?_
          refine ax_add (pc' := 118) ⟨_, rfl⟩ rfl ?_
          refine ax_sti (i := 0) (k := 2) (n := 1) (pc' := 119) (L' := [some (.ref r), some (ax_i x1), some (ax_i (x2 + r1)), some (ax_i x3), some (ax_i r1), some (ax_i (V1 525 x3))]) ⟨_, rfl⟩ rfl rfl rfl (Nat.le_of_ble_eq_true rfl) rfl rfl ?_
          refine ax_inc (x := x3) (pc' := 122) (L' := [some (.ref r), some (ax_i x1), some (ax_i (x2 + r1)), some (ax_i (x3 + 1)), some (ax_i r1), some (ax_i (V1 525 x3))]) ⟨_, rfl⟩ rfl rfl rfl rfl ?_
          refine ax_mv 1 12 [some (.ref r), some (ax_i x1), some (ax_i (x2 + r1)), some (ax_i (x3 + 1)), some (ax_i r1), some (ax_i (V1 525 x3))] [] rfl ?_
          exact h
        · have h := h.1 (Classical.not_not.mp hc)
          refine ax_mv 1 90 [some (.ref r), some (ax_i x1), some (ax_i x2), some (ax_i x3), some (ax_i r1), some (ax_i (V1 525 x3))] [.ref r] rfl ?_
          refine ax_gR (v := .ref (B + 56)) (pc' := 93) ⟨_, rfl⟩ fl_7_36 (az_e 0 rfl) rfl rfl ?_
          refine ax_gR (v := .ref (B + 65)) (pc' := 96) ⟨_, rfl⟩ fl_7_119 (az_b 56 rfl) rfl rfl ?_
          refine ax_mv 2 99 [some (.ref r), some (ax_i x1), some (ax_i x2), some (ax_i x3), some (ax_i r1), some (ax_i (V1 525 x3))] [ax_i x2, ax_i (V1 525 x3), .ref (B + 65)] rfl ?_
          obtain ⟨o9, h⟩ := h
          obtain ⟨V4, eV4⟩ : ∃ W9 : ax_V, W9 = ax_u V2 565 (V1 525 x3) x2 := ⟨_, rfl⟩
          have h := h V4 eV4
          have hg4 : ax_g V4 := eV4 ▸ ax_u_g hg2 hx2
          refine ax_ist (n := 350) (pc' := 100) ⟨_, rfl⟩ az_ok (az_b 65 rfl) (by decide) o9 eV4 rfl ?_
          refine ax_mv 1 101 [some (.ref r), some (ax_i x1), some (ax_i x2), some (ax_i x3), some (ax_i r1), some (ax_i (V1 525 x3))] [.ref r] rfl ?_
          refine ax_gR (v := .ref (B + 56)) (pc' := 104) ⟨_, rfl⟩ fl_7_36 (az_e 0 rfl) rfl rfl ?_
          refine ax_gR (v := .ref (B + 66)) (pc' := 107) ⟨_, rfl⟩ fl_7_114 (az_b 56 rfl) rfl rfl ?_
          refine ax_mv 3 112 [some (.ref r), some (ax_i x1), some (ax_i x2), some (ax_i x3), some (ax_i r1), some (ax_i (V1 525 x3))] [ax_i r1, ax_i x2, ax_i (V1 525 x3), .ref (B + 66)] rfl ?_
          refine ax_add (pc' := 113) ⟨_, rfl⟩ rfl ?_
          obtain ⟨o10, o11, h⟩ := h
          obtain ⟨V5, eV5⟩ : ∃ W9 : ax_V, W9 = ax_u V4 566 (V1 525 x3) (x2 + r1) := ⟨_, rfl⟩
          have h := h V5 eV5
          have hg5 : ax_g V5 := eV5 ▸ ax_u_g hg4 o11
          refine ax_ist (n := 350) (pc' := 114) ⟨_, rfl⟩ az_ok (az_b 66 rfl) (by decide) o10 eV5 rfl ?_
          refine ax_mv 2 117 [some (.ref r), some (ax_i x1), some (ax_i x2), some (ax_i x3), some (ax_i r1), some (ax_i (V1 525 x3))] [ax_i r1, ax_i x2] rfl ?_
          refine ax_add (pc' := 118) ⟨_, rfl⟩ rfl ?_
          refine ax_sti (i := 0) (k := 2) (n := 1) (pc' := 119) (L' := [some (.ref r), some (ax_i x1), some (ax_i (x2 + r1)), some (ax_i x3), some (ax_i r1), some (ax_i (V1 525 x3))]) ⟨_, rfl⟩ rfl rfl rfl (Nat.le_of_ble_eq_true rfl) rfl rfl ?_
          refine ax_inc (x := x3) (pc' := 122) (L' := [some (.ref r), some (ax_i x1), some (ax_i (x2 + r1)), some (ax_i (x3 + 1)), some (ax_i r1), some (ax_i (V1 525 x3))]) ⟨_, rfl⟩ rfl rfl rfl rfl ?_
          refine ax_mv 1 12 [some (.ref r), some (ax_i x1), some (ax_i (x2 + r1)), some (ax_i (x3 + 1)), some (ax_i r1), some (ax_i (V1 525 x3))] [] rfl ?_
          exact h
set_option maxRecDepth 20000 in
theorem r_Planner_layOut_135 {B : Nat} {r : Nat} {d : Nat} {V : ax_V} {Φ : ax_V → Prop} {Θ : ax_V → Prop} {x1 : Int} {x2 : Int} {x3 : Int} {y4 : Option Value} {y5 : Option Value} (hg : ax_g V) (hx1 : ax_rg x1) (hx2 : ax_rg x2) (hx3 : ax_rg x3) (hy4 : ax_y y4) (hy5 : ax_y y5) (h : (0 ≤ x1 + 1 ∧ x1 + 1 < 9) ∧ ((V 510 (x1 + 1) ≤ x3 → k_Planner_layOut_174 B r d x1 x2 (x1 * 26) y4 y5 V Φ Θ) ∧ (x3 < V 510 (x1 + 1) → (0 ≤ x3 ∧ x3 < 350) ∧ (∀ V1, V1 = ax_u V 560 x3 x2 → k_Planner_layOut_135 B r d x1 (x2 + 1) (x3 + 1) y4 y5 V1 Φ Θ)))) : k_Planner_layOut_135 B r d x1 x2 x3 y4 y5 V Φ Θ := by
  refine ax_mv 2 137 [some (.ref r), some (ax_i x1), some (ax_i x2), some (ax_i x3), y4, y5] [.ref r, ax_i x3] rfl ?_
  refine ax_gR (v := .ref B) (pc' := 140) ⟨_, rfl⟩ fl_7_9 (az_e 0 rfl) rfl rfl ?_
  refine ax_gR (v := .ref (B + 10)) (pc' := 143) ⟨_, rfl⟩ fl_7_68 (az_b 0 rfl) rfl rfl ?_
  refine ax_mv 2 145 [some (.ref r), some (ax_i x1), some (ax_i x2), some (ax_i x3), y4, y5] [ax_i 1, ax_i x1, .ref (B + 10), ax_i x3] rfl ?_
  refine ax_add (pc' := 146) ⟨_, rfl⟩ rfl ?_
  obtain ⟨o12, h⟩ := h
  refine ax_ild (n := 9) (pc' := 147) ⟨_, rfl⟩ (az_b 10 rfl) (by decide) o12 rfl ?_
  refine ax_if2 (p1 := 169) (p2 := 150) ⟨_, rfl⟩ (by decide) rfl hx3 (hg _ _) (fun hc => ?_) (fun hc => ?_)
  · have h := h.1 hc
    refine ax_mv 1 170 [some (.ref r), some (ax_i x1), some (ax_i x2), some (ax_i x3), y4, y5] [ax_i x1] rfl ?_
    refine ax_bip (pc' := 172) ⟨_, rfl⟩ (by decide) rfl ?_
    refine ax_mul (pc' := 173) ⟨_, rfl⟩ rfl ?_
    refine ax_sti (i := 0) (k := 3) (n := 1) (pc' := 174) (L' := [some (.ref r), some (ax_i x1), some (ax_i x2), some (ax_i (x1 * 26)), y4, y5]) ⟨_, rfl⟩ rfl rfl rfl (Nat.le_of_ble_eq_true rfl) rfl rfl ?_
    exact h
  · have h := h.2 (Int.not_le.mp hc)
    refine ax_mv 1 151 [some (.ref r), some (ax_i x1), some (ax_i x2), some (ax_i x3), y4, y5] [.ref r] rfl ?_
    refine ax_gR (v := .ref (B + 56)) (pc' := 154) ⟨_, rfl⟩ fl_7_36 (az_e 0 rfl) rfl rfl ?_
    refine ax_gR (v := .ref (B + 60)) (pc' := 157) ⟨_, rfl⟩ fl_7_122 (az_b 56 rfl) rfl rfl ?_
    refine ax_mv 2 159 [some (.ref r), some (ax_i x1), some (ax_i x2), some (ax_i x3), y4, y5] [ax_i x2, ax_i x3, .ref (B + 60)] rfl ?_
    obtain ⟨o13, h⟩ := h
    obtain ⟨V1, eV1⟩ : ∃ W9 : ax_V, W9 = ax_u V 560 x3 x2 := ⟨_, rfl⟩
    have h := h V1 eV1
    have hg1 : ax_g V1 := eV1 ▸ ax_u_g hg hx2
    refine ax_ist (n := 350) (pc' := 160) ⟨_, rfl⟩ az_ok (az_b 60 rfl) (by decide) o13 eV1 rfl ?_
    refine ax_inc (x := x2) (pc' := 163) (L' := [some (.ref r), some (ax_i x1), some (ax_i (x2 + 1)), some (ax_i x3), y4, y5]) ⟨_, rfl⟩ rfl rfl rfl rfl ?_
    refine ax_inc (x := x3) (pc' := 166) (L' := [some (.ref r), some (ax_i x1), some (ax_i (x2 + 1)), some (ax_i (x3 + 1)), y4, y5]) ⟨_, rfl⟩ rfl rfl rfl rfl ?_
    refine ax_mv 1 135 [some (.ref r), some (ax_i x1), some (ax_i (x2 + 1)), some (ax_i (x3 + 1)), y4, y5] [] rfl ?_
    exact h
set_option maxRecDepth 20000 in
theorem r_Planner_layOut_174 {B : Nat} {r : Nat} {d : Nat} {V : ax_V} {Φ : ax_V → Prop} {Θ : ax_V → Prop} {x1 : Int} {x2 : Int} {x3 : Int} {y4 : Option Value} {y5 : Option Value} (hg : ax_g V) (hx1 : ax_rg x1) (hx2 : ax_rg x2) (hx3 : ax_rg x3) (hy4 : ax_y y4) (hy5 : ax_y y5) (h : ax_rg ((x1 + 1) * 26) ∧ (((x1 + 1) * 26 ≤ x3 → Φ V) ∧ (x3 < (x1 + 1) * 26 → (0 ≤ x3 ∧ x3 < 208) ∧ ((V 538 x3 = 0 → k_Planner_layOut_174 B r d x1 x2 (x3 + 1) y4 y5 V Φ Θ) ∧ (¬ V 538 x3 = 0 → (0 ≤ x3 ∧ x3 < 208) ∧ (∀ V1, V1 = ax_u V 540 x3 x2 → k_Planner_layOut_174 B r d x1 (x2 + 1) (x3 + 1) y4 y5 V1 Φ Θ)))))) : k_Planner_layOut_174 B r d x1 x2 x3 y4 y5 V Φ Θ := by
  refine ax_mv 3 177 [some (.ref r), some (ax_i x1), some (ax_i x2), some (ax_i x3), y4, y5] [ax_i 1, ax_i x1, ax_i x3] rfl ?_
  refine ax_add (pc' := 178) ⟨_, rfl⟩ rfl ?_
  refine ax_bip (pc' := 180) ⟨_, rfl⟩ (by decide) rfl ?_
  refine ax_mul (pc' := 181) ⟨_, rfl⟩ rfl ?_
  obtain ⟨o14, h⟩ := h
  refine ax_if2 (p1 := 215) (p2 := 184) ⟨_, rfl⟩ (by decide) rfl hx3 o14 (fun hc => ?_) (fun hc => ?_)
  · have h := h.1 hc
    exact ax_nret ⟨_, rfl⟩ rfl hg h
  · have h := h.2 (Int.not_le.mp hc)
    refine ax_mv 1 185 [some (.ref r), some (ax_i x1), some (ax_i x2), some (ax_i x3), y4, y5] [.ref r] rfl ?_
    refine ax_gR (v := .ref (B + 32)) (pc' := 188) ⟨_, rfl⟩ fl_7_26 (az_e 0 rfl) rfl rfl ?_
    refine ax_gR (v := .ref (B + 38)) (pc' := 191) ⟨_, rfl⟩ fl_7_96 (az_b 32 rfl) rfl rfl ?_
    refine ax_mv 1 192 [some (.ref r), some (ax_i x1), some (ax_i x2), some (ax_i x3), y4, y5] [ax_i x3, .ref (B + 38)] rfl ?_
    obtain ⟨o15, h⟩ := h
    refine ax_bld (n := 208) (pc' := 193) ⟨_, rfl⟩ (az_b 38 rfl) (by decide) o15 rfl ?_
    refine ax_if (p1 := 209) (p2 := 196) ⟨_, rfl⟩ (by decide) rfl (hg _ _) (fun hc => ?_) (fun hc => ?_)
    · have h := h.1 hc
      refine ax_inc (x := x3) (pc' := 212) (L' := [some (.ref r), some (ax_i x1), some (ax_i x2), some (ax_i (x3 + 1)), y4, y5]) ⟨_, rfl⟩ rfl rfl rfl rfl ?_
      refine ax_mv 1 174 [some (.ref r), some (ax_i x1), some (ax_i x2), some (ax_i (x3 + 1)), y4, y5] [] rfl ?_
      exact h
    · have h := h.2 hc
      refine ax_mv 1 197 [some (.ref r), some (ax_i x1), some (ax_i x2), some (ax_i x3), y4, y5] [.ref r] rfl ?_
      refine ax_gR (v := .ref (B + 32)) (pc' := 200) ⟨_, rfl⟩ fl_7_26 (az_e 0 rfl) rfl rfl ?_
      refine ax_gR (v := .ref (B + 40)) (pc' := 203) ⟨_, rfl⟩ fl_7_123 (az_b 32 rfl) rfl rfl ?_
      refine ax_mv 2 205 [some (.ref r), some (ax_i x1), some (ax_i x2), some (ax_i x3), y4, y5] [ax_i x2, ax_i x3, .ref (B + 40)] rfl ?_
      obtain ⟨o16, h⟩ := h
      obtain ⟨V1, eV1⟩ : ∃ W9 : ax_V, W9 = ax_u V 540 x3 x2 := ⟨_, rfl⟩
      have h := h V1 eV1
      have hg1 : ax_g V1 := eV1 ▸ ax_u_g hg hx2
      refine ax_ist (n := 208) (pc' := 206) ⟨_, rfl⟩ az_ok (az_b 40 rfl) (by decide) o16 eV1 rfl ?_
      refine ax_inc (x := x2) (pc' := 209) (L' := [some (.ref r), some (ax_i x1), some (ax_i (x2 + 1)), some (ax_i x3), y4, y5]) ⟨_, rfl⟩ rfl rfl rfl rfl ?_
      refine ax_inc (x := x3) (pc' := 212) (L' := [some (.ref r), some (ax_i x1), some (ax_i (x2 + 1)), some (ax_i (x3 + 1)), y4, y5]) ⟨_, rfl⟩ rfl rfl rfl rfl ?_
      refine ax_mv 1 174 [some (.ref r), some (ax_i x1), some (ax_i (x2 + 1)), some (ax_i (x3 + 1)), y4, y5] [] rfl ?_
      exact h
set_option maxRecDepth 20000 in
theorem r_Planner_layOut {B : Nat} {r : Nat} {d : Nat} {V : ax_V} {Φ : ax_V → Prop} {Θ : ax_V → Prop} {x1 : Int} (hg : ax_g V) (hx1 : ax_rg x1) (h : (0 ≤ x1 ∧ x1 < 9) ∧ k_Planner_layOut_12 B r d x1 0 (V 508 x1) none none V Φ Θ) : ax_N (az_W B (az_EL B r)) (d + 1) q_Planner_layOut [.ref r, ax_i x1] V Φ Θ := by
  refine ax_T.of (M := m_Planner_layOut) rfl (Nat.le_of_ble_eq_true rfl) ?_
  refine ax_mv 0 0 [some (.ref r), some (ax_i x1), none, none, none, none] [] rfl ?_
  refine ax_mv 1 1 [some (.ref r), some (ax_i x1), none, none, none, none] [ax_i 0] rfl ?_
  refine ax_sti (i := 0) (k := 2) (n := 1) (pc' := 2) (L' := [some (.ref r), some (ax_i x1), some (ax_i 0), none, none, none]) ⟨_, rfl⟩ rfl rfl rfl (Nat.le_of_ble_eq_true rfl) rfl rfl ?_
  refine ax_mv 1 3 [some (.ref r), some (ax_i x1), some (ax_i 0), none, none, none] [.ref r] rfl ?_
  refine ax_gR (v := .ref B) (pc' := 6) ⟨_, rfl⟩ fl_7_9 (az_e 0 rfl) rfl rfl ?_
  refine ax_gR (v := .ref (B + 8)) (pc' := 9) ⟨_, rfl⟩ fl_7_71 (az_b 0 rfl) rfl rfl ?_
  refine ax_mv 1 10 [some (.ref r), some (ax_i x1), some (ax_i 0), none, none, none] [ax_i x1, .ref (B + 8)] rfl ?_
  obtain ⟨o17, h⟩ := h
  refine ax_ild (n := 9) (pc' := 11) ⟨_, rfl⟩ (az_b 8 rfl) (by decide) o17 rfl ?_
  refine ax_sti (i := 0) (k := 3) (n := 1) (pc' := 12) (L' := [some (.ref r), some (ax_i x1), some (ax_i 0), some (ax_i (V 508 x1)), none, none]) ⟨_, rfl⟩ rfl rfl rfl (Nat.le_of_ble_eq_true rfl) rfl rfl ?_
  exact h
abbrev k_Planner_fillFirstMemory_8 (B : Nat) (r : Nat) (d : Nat) (x1 : Int) (x2 : Int) (x3 : Int) (y4 : Option Value) (V : ax_V) (Φ : ax_V → Prop) (Θ : ax_V → Prop) : Prop := ax_R (az_W B (az_EL B r)) ax_t d m_Planner_fillFirstMemory 8 [some (.ref r), some (ax_i x1), some (ax_i x2), some (ax_i x3), y4] [] V (ax_Nr Φ) Θ
abbrev k_Planner_fillFirstMemory_43 (B : Nat) (r : Nat) (d : Nat) (x1 : Int) (x2 : Int) (x3 : Int) (y4 : Option Value) (V : ax_V) (Φ : ax_V → Prop) (Θ : ax_V → Prop) : Prop := ax_R (az_W B (az_EL B r)) ax_t d m_Planner_fillFirstMemory 43 [some (.ref r), some (ax_i x1), some (ax_i x2), some (ax_i x3), y4] [] V (ax_Nr Φ) Θ
abbrev k_Planner_fillFirstMemory_135 (B : Nat) (r : Nat) (d : Nat) (x1 : Int) (x2 : Int) (x3 : Int) (y4 : Option Value) (V : ax_V) (Φ : ax_V → Prop) (Θ : ax_V → Prop) : Prop := ax_R (az_W B (az_EL B r)) ax_t d m_Planner_fillFirstMemory 135 [some (.ref r), some (ax_i x1), some (ax_i x2), some (ax_i x3), y4] [] V (ax_Nr Φ) Θ
set_option maxRecDepth 20000 in
theorem r_Planner_fillFirstMemory_8 {B : Nat} {r : Nat} {d : Nat} {V : ax_V} {Φ : ax_V → Prop} {Θ : ax_V → Prop} {x1 : Int} {x2 : Int} {x3 : Int} {y4 : Option Value} (hg : ax_g V) (hx1 : ax_rg x1) (hx2 : ax_rg x2) (hx3 : ax_rg x3) (hy4 : ax_y y4) (h : ax_rg (x2 + 300) ∧ ((x2 + 300 ≤ x3 → (0 ≤ x1 ∧ x1 < 9) ∧ k_Planner_fillFirstMemory_43 B r d x1 x2 (V 508 x1) y4 V Φ Θ) ∧ (x3 < x2 + 300 → (0 ≤ x3 ∧ x3 < 2400) ∧ (∀ V1, V1 = ax_u V 515 x3 0 → k_Planner_fillFirstMemory_8 B r d x1 x2 (x3 + 1) y4 V1 Φ Θ)))) : k_Planner_fillFirstMemory_8 B r d x1 x2 x3 y4 V Φ Θ := by
  refine ax_mv 2 10 [some (.ref r), some (ax_i x1), some (ax_i x2), some (ax_i x3), y4] [ax_i x2, ax_i x3] rfl ?_
  refine ax_sip (pc' := 13) ⟨_, rfl⟩ (by decide) rfl ?_
  refine ax_add (pc' := 14) ⟨_, rfl⟩ rfl ?_
  obtain ⟨o1, h⟩ := h
  refine ax_if2 (p1 := 33) (p2 := 17) ⟨_, rfl⟩ (by decide) rfl hx3 o1 (fun hc => ?_) (fun hc => ?_)
  · have h := h.1 hc
    refine ax_mv 1 34 [some (.ref r), some (ax_i x1), some (ax_i x2), some (ax_i x3), y4] [.ref r] rfl ?_
    refine ax_gR (v := .ref B) (pc' := 37) ⟨_, rfl⟩ fl_7_9 (az_e 0 rfl) rfl rfl ?_
    refine ax_gR (v := .ref (B + 8)) (pc' := 40) ⟨_, rfl⟩ fl_7_71 (az_b 0 rfl) rfl rfl ?_
    refine ax_mv 1 41 [some (.ref r), some (ax_i x1), some (ax_i x2), some (ax_i x3), y4] [ax_i x1, .ref (B + 8)] rfl ?_
    obtain ⟨o2, h⟩ := h
    refine ax_ild (n := 9) (pc' := 42) ⟨_, rfl⟩ (az_b 8 rfl) (by decide) o2 rfl ?_
    refine ax_sti (i := 0) (k := 3) (n := 1) (pc' := 43) (L' := [some (.ref r), some (ax_i x1), some (ax_i x2), some (ax_i (V 508 x1)), y4]) ⟨_, rfl⟩ rfl rfl rfl (Nat.le_of_ble_eq_true rfl) rfl rfl ?_
    exact h
  · have h := h.2 (Int.not_le.mp hc)
    refine ax_mv 1 18 [some (.ref r), some (ax_i x1), some (ax_i x2), some (ax_i x3), y4] [.ref r] rfl ?_
    refine ax_gR (v := .ref B) (pc' := 21) ⟨_, rfl⟩ fl_7_9 (az_e 0 rfl) rfl rfl ?_
    refine ax_gR (v := .ref (B + 15)) (pc' := 24) ⟨_, rfl⟩ fl_7_126 (az_b 0 rfl) rfl rfl ?_
    refine ax_mv 2 26 [some (.ref r), some (ax_i x1), some (ax_i x2), some (ax_i x3), y4] [ax_i 0, ax_i x3, .ref (B + 15)] rfl ?_
    obtain ⟨o3, h⟩ := h
    obtain ⟨V1, eV1⟩ : ∃ W9 : ax_V, W9 = ax_u V 515 x3 0 := ⟨_, rfl⟩
    have h := h V1 eV1
    have hg1 : ax_g V1 := eV1 ▸ ax_u_g hg (by decide)
    refine ax_ist (n := 2400) (pc' := 27) ⟨_, rfl⟩ az_ok (az_b 15 rfl) (by decide) o3 eV1 rfl ?_
    refine ax_inc (x := x3) (pc' := 30) (L' := [some (.ref r), some (ax_i x1), some (ax_i x2), some (ax_i (x3 + 1)), y4]) ⟨_, rfl⟩ rfl rfl rfl rfl ?_
    refine ax_mv 1 8 [some (.ref r), some (ax_i x1), some (ax_i x2), some (ax_i (x3 + 1)), y4] [] rfl ?_
    exact h
set_option maxRecDepth 20000 in
theorem r_Planner_fillFirstMemory_43 {B : Nat} {r : Nat} {d : Nat} {V : ax_V} {Φ : ax_V → Prop} {Θ : ax_V → Prop} {x1 : Int} {x2 : Int} {x3 : Int} {y4 : Option Value} (hg : ax_g V) (hx1 : ax_rg x1) (hx2 : ax_rg x2) (hx3 : ax_rg x3) (hy4 : ax_y y4) (h : (0 ≤ x1 + 1 ∧ x1 + 1 < 9) ∧ ((V 508 (x1 + 1) ≤ x3 → k_Planner_fillFirstMemory_135 B r d x1 x2 (x1 * 26) y4 V Φ Θ) ∧ (x3 < V 508 (x1 + 1) → ax_I (az_W B (az_EL B r)) d q_Parts_isCall [.ref (B + 16), ax_i x3] V (fun r1 V1 => ((r1 = 0 → k_Planner_fillFirstMemory_43 B r d x1 x2 (x3 + 1) y4 V1 Φ Θ) ∧ (¬ r1 = 0 → (0 ≤ x3 ∧ x3 < 700) ∧ (0 ≤ x3 ∧ x3 < 700) ∧ (0 ≤ V1 520 x3 ∧ V1 520 x3 < 8) ∧ ((0 : Int) ≤ (V1 520 x3) * 300 ∧ (0 : Int) ≤ x2 + (V1 531 x3) ∧ (0 : Int) ≤ V1 514 (V1 520 x3) ∧ (((V1 520 x3) * 300) + (V1 514 (V1 520 x3)) : Int) ≤ 2400 ∧ ((x2 + (V1 531 x3)) + (V1 514 (V1 520 x3)) : Int) ≤ 2400) ∧ (∀ V2, V2 = ax_cp V1 515 515 ((V1 520 x3) * 300) (x2 + (V1 531 x3)) (V1 514 (V1 520 x3)) → k_Planner_fillFirstMemory_43 B r d x1 x2 (x3 + 1) (some (ax_i (V1 520 x3))) V2 Φ Θ)))) Θ))) : k_Planner_fillFirstMemory_43 B r d x1 x2 x3 y4 V Φ Θ := by
  refine ax_mv 2 45 [some (.ref r), some (ax_i x1), some (ax_i x2), some (ax_i x3), y4] [.ref r, ax_i x3] rfl ?_
  refine ax_gR (v := .ref B) (pc' := 48) ⟨_, rfl⟩ fl_7_9 (az_e 0 rfl) rfl rfl ?_
  refine ax_gR (v := .ref (B + 8)) (pc' := 51) ⟨_, rfl⟩ fl_7_71 (az_b 0 rfl) rfl rfl ?_
  refine ax_mv 2 53 [some (.ref r), some (ax_i x1), some (ax_i x2), some (ax_i x3), y4] [ax_i 1, ax_i x1, .ref (B + 8), ax_i x3] rfl ?_
  refine ax_add (pc' := 54) ⟨_, rfl⟩ rfl ?_
  obtain ⟨o4, h⟩ := h
  refine ax_ild (n := 9) (pc' := 55) ⟨_, rfl⟩ (az_b 8 rfl) (by decide) o4 rfl ?_
  refine ax_if2 (p1 := 130) (p2 := 58) ⟨_, rfl⟩ (by decide) rfl hx3 (hg _ _) (fun hc => ?_) (fun hc => ?_)
  · have h := h.1 hc
    refine ax_mv 1 131 [some (.ref r), some (ax_i x1), some (ax_i x2), some (ax_i x3), y4] [ax_i x1] rfl ?_
    refine ax_bip (pc' := 133) ⟨_, rfl⟩ (by decide) rfl ?_
    refine ax_mul (pc' := 134) ⟨_, rfl⟩ rfl ?_
    refine ax_sti (i := 0) (k := 3) (n := 1) (pc' := 135) (L' := [some (.ref r), some (ax_i x1), some (ax_i x2), some (ax_i (x1 * 26)), y4]) ⟨_, rfl⟩ rfl rfl rfl (Nat.le_of_ble_eq_true rfl) rfl rfl ?_
    exact h
  · have h := h.2 (Int.not_le.mp hc)
    refine ax_mv 1 59 [some (.ref r), some (ax_i x1), some (ax_i x2), some (ax_i x3), y4] [.ref r] rfl ?_
    refine ax_gR (v := .ref (B + 16)) (pc' := 62) ⟨_, rfl⟩ fl_7_21 (az_e 0 rfl) rfl rfl ?_
    refine ax_mv 1 63 [some (.ref r), some (ax_i x1), some (ax_i x2), some (ax_i x3), y4] [ax_i x3, .ref (B + 16)] rfl ?_
    refine ax_callI (pc' := 66) ⟨_, rfl⟩ ml_7_85 (rest := []) rfl (fun ss hs => ⟨_, _, (az_b 16 rfl) ss hs⟩) (Nat.le_of_ble_eq_true rfl) rfl rfl h (fun r1 V1 hg1 hr1 h => ?_)
    refine ax_if (p1 := 124) (p2 := 69) ⟨_, rfl⟩ (by decide) rfl hr1 (fun hc => ?_) (fun hc => ?_)
    · have h := h.1 hc
      refine ax_inc (x := x3) (pc' := 127) (L' := [some (.ref r), some (ax_i x1), some (ax_i x2), some (ax_i (x3 + 1)), y4]) ⟨_, rfl⟩ rfl rfl rfl rfl ?_
      refine ax_mv 1 43 [some (.ref r), some (ax_i x1), some (ax_i x2), some (ax_i (x3 + 1)), y4] [] rfl ?_
      exact h
    · have h := h.2 hc
      refine ax_mv 1 70 [some (.ref r), some (ax_i x1), some (ax_i x2), some (ax_i x3), y4] [.ref r] rfl ?_
      refine ax_gR (v := .ref (B + 16)) (pc' := 73) ⟨_, rfl⟩ fl_7_21 (az_e 0 rfl) rfl rfl ?_
      refine ax_gR (v := .ref (B + 20)) (pc' := 76) ⟨_, rfl⟩ fl_7_93 (az_b 16 rfl) rfl rfl ?_
      refine ax_mv 1 77 [some (.ref r), some (ax_i x1), some (ax_i x2), some (ax_i x3), y4] [ax_i x3, .ref (B + 20)] rfl ?_
      obtain ⟨o5, h⟩ := h
      refine ax_ild (n := 700) (pc' := 78) ⟨_, rfl⟩ (az_b 20 rfl) (by decide) o5 rfl ?_
      refine ax_sti (i := 0) (k := 4) (n := 2) (pc' := 80) (L' := [some (.ref r), some (ax_i x1), some (ax_i x2), some (ax_i x3), some (ax_i (V1 520 x3))]) ⟨_, rfl⟩ rfl rfl rfl (Nat.le_of_ble_eq_true rfl) rfl rfl ?_
      refine ax_mv 1 81 [some (.ref r), some (ax_i x1), some (ax_i x2), some (ax_i x3), some (ax_i (V1 520 x3))] [.ref r] rfl ?_
      refine ax_gR (v := .ref B) (pc' := 84) ⟨_, rfl⟩ fl_7_9 (az_e 0 rfl) rfl rfl ?_
      refine ax_gR (v := .ref (B + 15)) (pc' := 87) ⟨_, rfl⟩ fl_7_126 (az_b 0 rfl) rfl rfl ?_
      refine ax_mv 1 89 [some (.ref r), some (ax_i x1), some (ax_i x2), some (ax_i x3), some (ax_i (V1 520 x3))] [ax_i (V1 520 x3), .ref (B + 15)] rfl ?_
      refine ax_sip (pc' := 92) ⟨_, rfl⟩ (by decide) rfl ?_
      refine ax_mul (pc' := 93) ⟨_, rfl⟩ rfl ?_
      refine ax_mv 1 94 [some (.ref r), some (ax_i x1), some (ax_i x2), some (ax_i x3), some (ax_i (V1 520 x3))] [.ref r, ax_i ((V1 520 x3) * 300), .ref (B + 15)] rfl ?_
      refine ax_gR (v := .ref B) (pc' := 97) ⟨_, rfl⟩ fl_7_9 (az_e 0 rfl) rfl rfl ?_
      refine ax_gR (v := .ref (B + 15)) (pc' := 100) ⟨_, rfl⟩ fl_7_126 (az_b 0 rfl) rfl rfl ?_
      refine ax_mv 2 102 [some (.ref r), some (ax_i x1), some (ax_i x2), some (ax_i x3), some (ax_i (V1 520 x3))] [.ref r, ax_i x2, .ref (B + 15), ax_i ((V1 520 x3) * 300), .ref (B + 15)] rfl ?_
      refine ax_gR (v := .ref (B + 16)) (pc' := 105) ⟨_, rfl⟩ fl_7_21 (az_e 0 rfl) rfl rfl ?_
      refine ax_gR (v := .ref (B + 31)) (pc' := 108) ⟨_, rfl⟩ fl_7_111 (az_b 16 rfl) rfl rfl ?_
      refine ax_mv 1 109 [some (.ref r), some (ax_i x1), some (ax_i x2), some (ax_i x3), some (ax_i (V1 520 x3))] [ax_i x3, .ref (B + 31), ax_i x2, .ref (B + 15), ax_i ((V1 520 x3) * 300), .ref (B + 15)] rfl ?_
      obtain ⟨o6, h⟩ := h
      refine ax_ild (n := 700) (pc' := 110) ⟨_, rfl⟩ (az_b 31 rfl) (by decide) o6 rfl ?_
      refine ax_add (pc' := 111) ⟨_, rfl⟩ rfl ?_
      refine ax_mv 1 112 [some (.ref r), some (ax_i x1), some (ax_i x2), some (ax_i x3), some (ax_i (V1 520 x3))] [.ref r, ax_i (x2 + (V1 531 x3)), .ref (B + 15), ax_i ((V1 520 x3) * 300), .ref (B + 15)] rfl ?_
      refine ax_gR (v := .ref B) (pc' := 115) ⟨_, rfl⟩ fl_7_9 (az_e 0 rfl) rfl rfl ?_
      refine ax_gR (v := .ref (B + 14)) (pc' := 118) ⟨_, rfl⟩ fl_7_102 (az_b 0 rfl) rfl rfl ?_
      refine ax_mv 1 120 [some (.ref r), some (ax_i x1), some (ax_i x2), some (ax_i x3), some (ax_i (V1 520 x3))] [ax_i (V1 520 x3), .ref (B + 14), ax_i (x2 + (V1 531 x3)), .ref (B + 15), ax_i ((V1 520 x3) * 300), .ref (B + 15)] rfl ?_
      obtain ⟨o7, h⟩ := h
      refine ax_ild (n := 8) (pc' := 121) ⟨_, rfl⟩ (az_b 14 rfl) (by decide) o7 rfl ?_
      obtain ⟨o8, h⟩ := h
      obtain ⟨V2, eV2⟩ : ∃ W9 : ax_V, W9 = ax_cp V1 515 515 ((V1 520 x3) * 300) (x2 + (V1 531 x3)) (V1 514 (V1 520 x3)) := ⟨_, rfl⟩
      have h := h V2 eV2
      have hg2 : ax_g V2 := eV2 ▸ ax_cp_g hg1
      refine ax_acp (na := 2400) (nb := 2400) (pc' := 124) ⟨_, rfl⟩ ml_7_129 az_ok (az_b 15 rfl) (az_b 15 rfl) (by decide) (by decide) o8 (Nat.le_of_ble_eq_true rfl) eV2 rfl ?_
      refine ax_inc (x := x3) (pc' := 127) (L' := [some (.ref r), some (ax_i x1), some (ax_i x2), some (ax_i (x3 + 1)), some (ax_i (V1 520 x3))]) ⟨_, rfl⟩ rfl rfl rfl rfl ?_
      refine ax_mv 1 43 [some (.ref r), some (ax_i x1), some (ax_i x2), some (ax_i (x3 + 1)), some (ax_i (V1 520 x3))] [] rfl ?_
      exact h
set_option maxRecDepth 20000 in
theorem r_Planner_fillFirstMemory_135 {B : Nat} {r : Nat} {d : Nat} {V : ax_V} {Φ : ax_V → Prop} {Θ : ax_V → Prop} {x1 : Int} {x2 : Int} {x3 : Int} {y4 : Option Value} (hg : ax_g V) (hx1 : ax_rg x1) (hx2 : ax_rg x2) (hx3 : ax_rg x3) (hy4 : ax_y y4) (h : ax_rg ((x1 + 1) * 26) ∧ (((x1 + 1) * 26 ≤ x3 → Φ V) ∧ (x3 < (x1 + 1) * 26 → (0 ≤ x3 ∧ x3 < 208) ∧ ((V 538 x3 = 0 → k_Planner_fillFirstMemory_135 B r d x1 x2 (x3 + 1) y4 V Φ Θ) ∧ (¬ V 538 x3 = 0 → (0 ≤ x3 ∧ x3 < 208) ∧ (0 ≤ x3 ∧ x3 < 208) ∧ (0 ≤ x2 + (V 540 x3) ∧ x2 + (V 540 x3) < 2400) ∧ (∀ V1, V1 = ax_u V 515 (x2 + (V 540 x3)) (V 539 x3) → k_Planner_fillFirstMemory_135 B r d x1 x2 (x3 + 1) y4 V1 Φ Θ)))))) : k_Planner_fillFirstMemory_135 B r d x1 x2 x3 y4 V Φ Θ := by
  refine ax_mv 3 138 [some (.ref r), some (ax_i x1), some (ax_i x2), some (ax_i x3), y4] [ax_i 1, ax_i x1, ax_i x3] rfl ?_
  refine ax_add (pc' := 139) ⟨_, rfl⟩ rfl ?_
  refine ax_bip (pc' := 141) ⟨_, rfl⟩ (by decide) rfl ?_
  refine ax_mul (pc' := 142) ⟨_, rfl⟩ rfl ?_
  obtain ⟨o9, h⟩ := h
  refine ax_if2 (p1 := 191) (p2 := 145) ⟨_, rfl⟩ (by decide) rfl hx3 o9 (fun hc => ?_) (fun hc => ?_)
  · have h := h.1 hc
    exact ax_nret ⟨_, rfl⟩ rfl hg h
  · have h := h.2 (Int.not_le.mp hc)
    refine ax_mv 1 146 [some (.ref r), some (ax_i x1), some (ax_i x2), some (ax_i x3), y4] [.ref r] rfl ?_
    refine ax_gR (v := .ref (B + 32)) (pc' := 149) ⟨_, rfl⟩ fl_7_26 (az_e 0 rfl) rfl rfl ?_
    refine ax_gR (v := .ref (B + 38)) (pc' := 152) ⟨_, rfl⟩ fl_7_96 (az_b 32 rfl) rfl rfl ?_
    refine ax_mv 1 153 [some (.ref r), some (ax_i x1), some (ax_i x2), some (ax_i x3), y4] [ax_i x3, .ref (B + 38)] rfl ?_
    obtain ⟨o10, h⟩ := h
    refine ax_bld (n := 208) (pc' := 154) ⟨_, rfl⟩ (az_b 38 rfl) (by decide) o10 rfl ?_
    refine ax_if (p1 := 185) (p2 := 157) ⟨_, rfl⟩ (by decide) rfl (hg _ _) (fun hc => ?_) (fun hc => ?_)
    · have h := h.1 hc
      refine ax_inc (x := x3) (pc' := 188) (L' := [some (.ref r), some (ax_i x1), some (ax_i x2), some (ax_i (x3 + 1)), y4]) ⟨_, rfl⟩ rfl rfl rfl rfl ?_
      refine ax_mv 1 135 [some (.ref r), some (ax_i x1), some (ax_i x2), some (ax_i (x3 + 1)), y4] [] rfl ?_
      exact h
    · have h := h.2 hc
      refine ax_mv 1 158 [some (.ref r), some (ax_i x1), some (ax_i x2), some (ax_i x3), y4] [.ref r] rfl ?_
      refine ax_gR (v := .ref B) (pc' := 161) ⟨_, rfl⟩ fl_7_9 (az_e 0 rfl) rfl rfl ?_
      refine ax_gR (v := .ref (B + 15)) (pc' := 164) ⟨_, rfl⟩ fl_7_126 (az_b 0 rfl) rfl rfl ?_
      refine ax_mv 2 166 [some (.ref r), some (ax_i x1), some (ax_i x2), some (ax_i x3), y4] [.ref r, ax_i x2, .ref (B + 15)] rfl ?_
      refine ax_gR (v := .ref (B + 32)) (pc' := 169) ⟨_, rfl⟩ fl_7_26 (az_e 0 rfl) rfl rfl ?_
      refine ax_gR (v := .ref (B + 40)) (pc' := 172) ⟨_, rfl⟩ fl_7_123 (az_b 32 rfl) rfl rfl ?_
      refine ax_mv 1 173 [some (.ref r), some (ax_i x1), some (ax_i x2), some (ax_i x3), y4] [ax_i x3, .ref (B + 40), ax_i x2, .ref (B + 15)] rfl ?_
      obtain ⟨o11, h⟩ := h
      refine ax_ild (n := 208) (pc' := 174) ⟨_, rfl⟩ (az_b 40 rfl) (by decide) o11 rfl ?_
      refine ax_add (pc' := 175) ⟨_, rfl⟩ rfl ?_
      refine ax_mv 1 176 [some (.ref r), some (ax_i x1), some (ax_i x2), some (ax_i x3), y4] [.ref r, ax_i (x2 + (V 540 x3)), .ref (B + 15)] rfl ?_
      refine ax_gR (v := .ref (B + 32)) (pc' := 179) ⟨_, rfl⟩ fl_7_26 (az_e 0 rfl) rfl rfl ?_
      refine ax_gR (v := .ref (B + 39)) (pc' := 182) ⟨_, rfl⟩ fl_7_135 (az_b 32 rfl) rfl rfl ?_
      refine ax_mv 1 183 [some (.ref r), some (ax_i x1), some (ax_i x2), some (ax_i x3), y4] [ax_i x3, .ref (B + 39), ax_i (x2 + (V 540 x3)), .ref (B + 15)] rfl ?_
      obtain ⟨o12, h⟩ := h
      refine ax_ild (n := 208) (pc' := 184) ⟨_, rfl⟩ (az_b 39 rfl) (by decide) o12 rfl ?_
      obtain ⟨o13, h⟩ := h
      obtain ⟨V1, eV1⟩ : ∃ W9 : ax_V, W9 = ax_u V 515 (x2 + (V 540 x3)) (V 539 x3) := ⟨_, rfl⟩
      have h := h V1 eV1
      have hg1 : ax_g V1 := eV1 ▸ ax_u_g hg (hg _ _)
      refine ax_ist (n := 2400) (pc' := 185) ⟨_, rfl⟩ az_ok (az_b 15 rfl) (by decide) o13 eV1 rfl ?_
      refine ax_inc (x := x3) (pc' := 188) (L' := [some (.ref r), some (ax_i x1), some (ax_i x2), some (ax_i (x3 + 1)), y4]) ⟨_, rfl⟩ rfl rfl rfl rfl ?_
      refine ax_mv 1 135 [some (.ref r), some (ax_i x1), some (ax_i x2), some (ax_i (x3 + 1)), y4] [] rfl ?_
      exact h
set_option maxRecDepth 20000 in
theorem r_Planner_fillFirstMemory {B : Nat} {r : Nat} {d : Nat} {V : ax_V} {Φ : ax_V → Prop} {Θ : ax_V → Prop} {x1 : Int} (hg : ax_g V) (hx1 : ax_rg x1) (h : k_Planner_fillFirstMemory_8 B r d x1 (x1 * 300) (x1 * 300) none V Φ Θ) : ax_N (az_W B (az_EL B r)) (d + 1) q_Planner_fillFirstMemory [.ref r, ax_i x1] V Φ Θ := by
  refine ax_T.of (M := m_Planner_fillFirstMemory) rfl (Nat.le_of_ble_eq_true rfl) ?_
  refine ax_mv 0 0 [some (.ref r), some (ax_i x1), none, none, none] [] rfl ?_
  refine ax_mv 1 1 [some (.ref r), some (ax_i x1), none, none, none] [ax_i x1] rfl ?_
  refine ax_sip (pc' := 4) ⟨_, rfl⟩ (by decide) rfl ?_
  refine ax_mul (pc' := 5) ⟨_, rfl⟩ rfl ?_
  refine ax_sti (i := 0) (k := 2) (n := 1) (pc' := 6) (L' := [some (.ref r), some (ax_i x1), some (ax_i (x1 * 300)), none, none]) ⟨_, rfl⟩ rfl rfl rfl (Nat.le_of_ble_eq_true rfl) rfl rfl ?_
  refine ax_mv 1 7 [some (.ref r), some (ax_i x1), some (ax_i (x1 * 300)), none, none] [ax_i (x1 * 300)] rfl ?_
  refine ax_sti (i := 0) (k := 3) (n := 1) (pc' := 8) (L' := [some (.ref r), some (ax_i x1), some (ax_i (x1 * 300)), some (ax_i (x1 * 300)), none]) ⟨_, rfl⟩ rfl rfl rfl (Nat.le_of_ble_eq_true rfl) rfl rfl ?_
  exact h
abbrev k_Planner_settleClocks_10 (B : Nat) (r : Nat) (d : Nat) (x1 : Int) (x2 : Int) (y3 : Option Value) (y4 : Option Value) (y5 : Option Value) (V : ax_V) (Φ : ax_V → Prop) (Θ : ax_V → Prop) : Prop := ax_R (az_W B (az_EL B r)) ax_t d m_Planner_settleClocks 10 [some (.ref r), some (ax_i x1), some (ax_i x2), y3, y4, y5] [] V (ax_Nr Φ) Θ
abbrev k_Planner_settleClocks_83 (B : Nat) (r : Nat) (d : Nat) (x1 : Int) (x2 : Int) (y3 : Option Value) (y4 : Option Value) (y5 : Option Value) (V : ax_V) (Φ : ax_V → Prop) (Θ : ax_V → Prop) : Prop := ax_R (az_W B (az_EL B r)) ax_t d m_Planner_settleClocks 83 [some (.ref r), some (ax_i x1), some (ax_i x2), y3, y4, y5] [] V (ax_Nr Φ) Θ
abbrev k_Planner_settleClocks_120 (B : Nat) (r : Nat) (d : Nat) (x1 : Int) (x2 : Int) (x3 : Int) (x4 : Int) (x5 : Int) (V : ax_V) (Φ : ax_V → Prop) (Θ : ax_V → Prop) : Prop := ax_R (az_W B (az_EL B r)) ax_t d m_Planner_settleClocks 120 [some (.ref r), some (ax_i x1), some (ax_i x2), some (ax_i x3), some (ax_i x4), some (ax_i x5)] [] V (ax_Nr Φ) Θ
set_option maxRecDepth 20000 in
theorem r_Planner_settleClocks_10 {B : Nat} {r : Nat} {d : Nat} {V : ax_V} {Φ : ax_V → Prop} {Θ : ax_V → Prop} {x1 : Int} {x2 : Int} {y3 : Option Value} {y4 : Option Value} {y5 : Option Value} (hg : ax_g V) (hx1 : ax_rg x1) (hx2 : ax_rg x2) (hy3 : ax_y y3) (hy4 : ax_y y4) (hy5 : ax_y y5) (h : (0 ≤ x1 + 1 ∧ x1 + 1 < 9) ∧ ((V 509 (x1 + 1) ≤ x2 → (0 ≤ x1 + 1 ∧ x1 + 1 < 9) ∧ k_Planner_settleClocks_83 B r d x1 ((V 508 (x1 + 1)) - 1) y3 y4 y5 V Φ Θ) ∧ (x2 < V 509 (x1 + 1) → (0 ≤ x2 ∧ x2 < 350) ∧ (0 ≤ x2 ∧ x2 < 351) ∧ (0 ≤ V 548 x2 ∧ V 548 x2 < 350) ∧ (0 ≤ V 554 (V 548 x2) ∧ V 554 (V 548 x2) < 208) ∧ ax_N (az_W B (az_EL B r)) d q_Planner_settle [.ref r, ax_i (V 550 x2), ax_i (V 536 (V 554 (V 548 x2)))] V (fun V1 => k_Planner_settleClocks_10 B r d x1 (x2 + 1) y3 y4 y5 V1 Φ Θ) Θ))) : k_Planner_settleClocks_10 B r d x1 x2 y3 y4 y5 V Φ Θ := by
  refine ax_mv 2 12 [some (.ref r), some (ax_i x1), some (ax_i x2), y3, y4, y5] [.ref r, ax_i x2] rfl ?_
  refine ax_gR (v := .ref B) (pc' := 15) ⟨_, rfl⟩ fl_7_9 (az_e 0 rfl) rfl rfl ?_
  refine ax_gR (v := .ref (B + 9)) (pc' := 18) ⟨_, rfl⟩ fl_7_138 (az_b 0 rfl) rfl rfl ?_
  refine ax_mv 2 20 [some (.ref r), some (ax_i x1), some (ax_i x2), y3, y4, y5] [ax_i 1, ax_i x1, .ref (B + 9), ax_i x2] rfl ?_
  refine ax_add (pc' := 21) ⟨_, rfl⟩ rfl ?_
  obtain ⟨o1, h⟩ := h
  refine ax_ild (n := 9) (pc' := 22) ⟨_, rfl⟩ (az_b 9 rfl) (by decide) o1 rfl ?_
  refine ax_if2 (p1 := 69) (p2 := 25) ⟨_, rfl⟩ (by decide) rfl hx2 (hg _ _) (fun hc => ?_) (fun hc => ?_)
  · have h := h.1 hc
    refine ax_mv 1 70 [some (.ref r), some (ax_i x1), some (ax_i x2), y3, y4, y5] [.ref r] rfl ?_
    refine ax_gR (v := .ref B) (pc' := 73) ⟨_, rfl⟩ fl_7_9 (az_e 0 rfl) rfl rfl ?_
    refine ax_gR (v := .ref (B + 8)) (pc' := 76) ⟨_, rfl⟩ fl_7_71 (az_b 0 rfl) rfl rfl ?_
    refine ax_mv 2 78 [some (.ref r), some (ax_i x1), some (ax_i x2), y3, y4, y5] [ax_i 1, ax_i x1, .ref (B + 8)] rfl ?_
    refine ax_add (pc' := 79) ⟨_, rfl⟩ rfl ?_
    obtain ⟨o2, h⟩ := h
    refine ax_ild (n := 9) (pc' := 80) ⟨_, rfl⟩ (az_b 8 rfl) (by decide) o2 rfl ?_
    refine ax_mv 1 81 [some (.ref r), some (ax_i x1), some (ax_i x2), y3, y4, y5] [ax_i 1, ax_i (V 508 (x1 + 1))] rfl ?_
    refine ax_sub (pc' := 82) ⟨_, rfl⟩ rfl ?_
    refine ax_sti (i := 0) (k := 2) (n := 1) (pc' := 83) (L' := [some (.ref r), some (ax_i x1), some (ax_i ((V 508 (x1 + 1)) - 1)), y3, y4, y5]) ⟨_, rfl⟩ rfl rfl rfl (Nat.le_of_ble_eq_true rfl) rfl rfl ?_
    exact h
  · have h := h.2 (Int.not_le.mp hc)
    refine ax_mv 2 27 [some (.ref r), some (ax_i x1), some (ax_i x2), y3, y4, y5] [.ref r, .ref r] rfl ?_
    refine ax_gR (v := .ref (B + 47)) (pc' := 30) ⟨_, rfl⟩ fl_7_31 (az_e 0 rfl) rfl rfl ?_
    refine ax_gR (v := .ref (B + 50)) (pc' := 33) ⟨_, rfl⟩ fl_7_141 (az_b 47 rfl) rfl rfl ?_
    refine ax_mv 1 34 [some (.ref r), some (ax_i x1), some (ax_i x2), y3, y4, y5] [ax_i x2, .ref (B + 50), .ref r] rfl ?_
    obtain ⟨o3, h⟩ := h
    refine ax_ild (n := 350) (pc' := 35) ⟨_, rfl⟩ (az_b 50 rfl) (by decide) o3 rfl ?_
    refine ax_mv 1 36 [some (.ref r), some (ax_i x1), some (ax_i x2), y3, y4, y5] [.ref r, ax_i (V 550 x2), .ref r] rfl ?_
    refine ax_gR (v := .ref (B + 32)) (pc' := 39) ⟨_, rfl⟩ fl_7_26 (az_e 0 rfl) rfl rfl ?_
    refine ax_gR (v := .ref (B + 36)) (pc' := 42) ⟨_, rfl⟩ fl_7_146 (az_b 32 rfl) rfl rfl ?_
    refine ax_mv 1 43 [some (.ref r), some (ax_i x1), some (ax_i x2), y3, y4, y5] [.ref r, .ref (B + 36), ax_i (V 550 x2), .ref r] rfl ?_
    refine ax_gR (v := .ref (B + 47)) (pc' := 46) ⟨_, rfl⟩ fl_7_31 (az_e 0 rfl) rfl rfl ?_
    refine ax_gR (v := .ref (B + 54)) (pc' := 49) ⟨_, rfl⟩ fl_7_149 (az_b 47 rfl) rfl rfl ?_
    refine ax_mv 1 50 [some (.ref r), some (ax_i x1), some (ax_i x2), y3, y4, y5] [.ref r, .ref (B + 54), .ref (B + 36), ax_i (V 550 x2), .ref r] rfl ?_
    refine ax_gR (v := .ref (B + 47)) (pc' := 53) ⟨_, rfl⟩ fl_7_31 (az_e 0 rfl) rfl rfl ?_
    refine ax_gR (v := .ref (B + 48)) (pc' := 56) ⟨_, rfl⟩ fl_7_152 (az_b 47 rfl) rfl rfl ?_
    refine ax_mv 1 57 [some (.ref r), some (ax_i x1), some (ax_i x2), y3, y4, y5] [ax_i x2, .ref (B + 48), .ref (B + 54), .ref (B + 36), ax_i (V 550 x2), .ref r] rfl ?_
    obtain ⟨o4, h⟩ := h
    refine ax_ild (n := 351) (pc' := 58) ⟨_, rfl⟩ (az_b 48 rfl) (by decide) o4 rfl ?_
    obtain ⟨o5, h⟩ := h
    refine ax_ild (n := 350) (pc' := 59) ⟨_, rfl⟩ (az_b 54 rfl) (by decide) o5 rfl ?_
    obtain ⟨o6, h⟩ := h
    refine ax_ild (n := 208) (pc' := 60) ⟨_, rfl⟩ (az_b 36 rfl) (by decide) o6 rfl ?_
    refine ax_callN (pc' := 63) ⟨_, rfl⟩ ml_7_155 (rest := []) rfl (fun ss hs => ⟨_, _, (az_e 0 rfl) ss hs⟩) (Nat.le_of_ble_eq_true rfl) rfl rfl h (fun V1 hg1 h => ?_)
    refine ax_inc (x := x2) (pc' := 66) (L' := [some (.ref r), some (ax_i x1), some (ax_i (x2 + 1)), y3, y4, y5]) ⟨_, rfl⟩ rfl rfl rfl rfl ?_
    refine ax_mv 1 10 [some (.ref r), some (ax_i x1), some (ax_i (x2 + 1)), y3, y4, y5] [] rfl ?_
    exact h
set_option maxRecDepth 20000 in
theorem r_Planner_settleClocks_83 {B : Nat} {r : Nat} {d : Nat} {V : ax_V} {Φ : ax_V → Prop} {Θ : ax_V → Prop} {x1 : Int} {x2 : Int} {y3 : Option Value} {y4 : Option Value} {y5 : Option Value} (hg : ax_g V) (hx1 : ax_rg x1) (hx2 : ax_rg x2) (hy3 : ax_y y3) (hy4 : ax_y y4) (hy5 : ax_y y5) (h : (0 ≤ x1 ∧ x1 < 9) ∧ ((x2 < V 508 x1 → Φ V) ∧ (V 508 x1 ≤ x2 → (0 ≤ x2 ∧ x2 < 700) ∧ (0 ≤ x2 ∧ x2 < 700) ∧ k_Planner_settleClocks_120 B r d x1 x2 (V 521 x2) (V 517 x2) 0 V Φ Θ))) : k_Planner_settleClocks_83 B r d x1 x2 y3 y4 y5 V Φ Θ := by
  refine ax_mv 2 85 [some (.ref r), some (ax_i x1), some (ax_i x2), y3, y4, y5] [.ref r, ax_i x2] rfl ?_
  refine ax_gR (v := .ref B) (pc' := 88) ⟨_, rfl⟩ fl_7_9 (az_e 0 rfl) rfl rfl ?_
  refine ax_gR (v := .ref (B + 8)) (pc' := 91) ⟨_, rfl⟩ fl_7_71 (az_b 0 rfl) rfl rfl ?_
  refine ax_mv 1 92 [some (.ref r), some (ax_i x1), some (ax_i x2), y3, y4, y5] [ax_i x1, .ref (B + 8), ax_i x2] rfl ?_
  obtain ⟨o7, h⟩ := h
  refine ax_ild (n := 9) (pc' := 93) ⟨_, rfl⟩ (az_b 8 rfl) (by decide) o7 rfl ?_
  refine ax_if2 (p1 := 239) (p2 := 96) ⟨_, rfl⟩ (by decide) rfl hx2 (hg _ _) (fun hc => ?_) (fun hc => ?_)
  · have h := h.1 hc
    exact ax_nret ⟨_, rfl⟩ rfl hg h
  · have h := h.2 (Int.not_lt.mp hc)
    refine ax_mv 1 97 [some (.ref r), some (ax_i x1), some (ax_i x2), y3, y4, y5] [.ref r] rfl ?_
    refine ax_gR (v := .ref (B + 16)) (pc' := 100) ⟨_, rfl⟩ fl_7_21 (az_e 0 rfl) rfl rfl ?_
    refine ax_gR (v := .ref (B + 21)) (pc' := 103) ⟨_, rfl⟩ fl_7_159 (az_b 16 rfl) rfl rfl ?_
    refine ax_mv 1 104 [some (.ref r), some (ax_i x1), some (ax_i x2), y3, y4, y5] [ax_i x2, .ref (B + 21)] rfl ?_
    obtain ⟨o8, h⟩ := h
    refine ax_ild (n := 700) (pc' := 105) ⟨_, rfl⟩ (az_b 21 rfl) (by decide) o8 rfl ?_
    refine ax_sti (i := 0) (k := 3) (n := 1) (pc' := 106) (L' := [some (.ref r), some (ax_i x1), some (ax_i x2), some (ax_i (V 521 x2)), y4, y5]) ⟨_, rfl⟩ rfl rfl rfl (Nat.le_of_ble_eq_true rfl) rfl rfl ?_
    refine ax_mv 1 107 [some (.ref r), some (ax_i x1), some (ax_i x2), some (ax_i (V 521 x2)), y4, y5] [.ref r] rfl ?_
    refine ax_gR (v := .ref (B + 16)) (pc' := 110) ⟨_, rfl⟩ fl_7_21 (az_e 0 rfl) rfl rfl ?_
    refine ax_gR (v := .ref (B + 17)) (pc' := 113) ⟨_, rfl⟩ fl_7_105 (az_b 16 rfl) rfl rfl ?_
    refine ax_mv 1 114 [some (.ref r), some (ax_i x1), some (ax_i x2), some (ax_i (V 521 x2)), y4, y5] [ax_i x2, .ref (B + 17)] rfl ?_
    obtain ⟨o9, h⟩ := h
    refine ax_ild (n := 700) (pc' := 115) ⟨_, rfl⟩ (az_b 17 rfl) (by decide) o9 rfl ?_
    refine ax_sti (i := 0) (k := 4) (n := 2) (pc' := 117) (L' := [some (.ref r), some (ax_i x1), some (ax_i x2), some (ax_i (V 521 x2)), some (ax_i (V 517 x2)), y5]) ⟨_, rfl⟩ rfl rfl rfl (Nat.le_of_ble_eq_true rfl) rfl rfl ?_
    refine ax_mv 1 118 [some (.ref r), some (ax_i x1), some (ax_i x2), some (ax_i (V 521 x2)), some (ax_i (V 517 x2)), y5] [ax_i 0] rfl ?_
    refine ax_sti (i := 0) (k := 5) (n := 2) (pc' := 120) (L' := [some (.ref r), some (ax_i x1), some (ax_i x2), some (ax_i (V 521 x2)), some (ax_i (V 517 x2)), some (ax_i 0)]) ⟨_, rfl⟩ rfl rfl rfl (Nat.le_of_ble_eq_true rfl) rfl rfl ?_
    exact h
set_option maxRecDepth 20000 in
theorem r_Planner_settleClocks_120 {B : Nat} {r : Nat} {d : Nat} {V : ax_V} {Φ : ax_V → Prop} {Θ : ax_V → Prop} {x1 : Int} {x2 : Int} {x3 : Int} {x4 : Int} {x5 : Int} (hg : ax_g V) (hx1 : ax_rg x1) (hx2 : ax_rg x2) (hx3 : ax_rg x3) (hx4 : ax_rg x4) (hx5 : ax_rg x5) (h : ((700 ≤ x5 → k_Planner_settleClocks_83 B r d x1 (x2 + (-1)) (some (ax_i x3)) (some (ax_i x4)) (some (ax_i x5)) V Φ Θ) ∧ (x5 < 700 → ((x3 < 0 → k_Planner_settleClocks_83 B r d x1 (x2 + (-1)) (some (ax_i x3)) (some (ax_i x4)) (some (ax_i x5)) V Φ Θ) ∧ (0 ≤ x3 → ((x4 = 20 → (0 ≤ x2 ∧ x2 < 700) ∧ (0 ≤ ax_shr (V 520 x2) 1 ∧ ax_shr (V 520 x2) 1 < 208) ∧ ax_N (az_W B (az_EL B r)) d q_Planner_settle [.ref r, ax_i x3, ax_i (V 536 (ax_shr (V 520 x2) 1))] V (fun V4 => (0 ≤ x3 ∧ x3 < 700) ∧ k_Planner_settleClocks_120 B r d x1 x2 (V4 522 x3) x4 (x5 + 1) V4 Φ Θ) Θ) ∧ (¬ x4 = 20 → ((x4 = 21 → (0 ≤ x2 ∧ x2 < 700) ∧ ((x5 = 0 → ax_N (az_W B (az_EL B r)) d q_Planner_settle [.ref r, ax_i x3, ax_i ((2 * (V 520 x2)) + 0)] V (fun V3 => (0 ≤ x3 ∧ x3 < 700) ∧ k_Planner_settleClocks_120 B r d x1 x2 (V3 522 x3) x4 (x5 + 1) V3 Φ Θ) Θ) ∧ (¬ x5 = 0 → ax_N (az_W B (az_EL B r)) d q_Planner_settle [.ref r, ax_i x3, ax_i ((2 * (V 520 x2)) + 1)] V (fun V2 => (0 ≤ x3 ∧ x3 < 700) ∧ k_Planner_settleClocks_120 B r d x1 x2 (V2 522 x3) x4 (x5 + 1) V2 Φ Θ) Θ))) ∧ (¬ x4 = 21 → (0 ≤ x2 ∧ x2 < 700) ∧ ax_N (az_W B (az_EL B r)) d q_Planner_settle [.ref r, ax_i x3, ax_i (V 529 x2)] V (fun V1 => (0 ≤ x3 ∧ x3 < 700) ∧ k_Planner_settleClocks_120 B r d x1 x2 (V1 522 x3) x4 (x5 + 1) V1 Φ Θ) Θ))))))))) : k_Planner_settleClocks_120 B r d x1 x2 x3 x4 x5 V Φ Θ := by
  refine ax_mv 1 122 [some (.ref r), some (ax_i x1), some (ax_i x2), some (ax_i x3), some (ax_i x4), some (ax_i x5)] [ax_i x5] rfl ?_
  refine ax_sip (pc' := 125) ⟨_, rfl⟩ (by decide) rfl ?_
  refine ax_if2 (p1 := 233) (p2 := 128) ⟨_, rfl⟩ (by decide) rfl hx5 (by decide) (fun hc => ?_) (fun hc => ?_)
  · have h := h.1 hc
    refine ax_inc (x := x2) (pc' := 236) (L' := [some (.ref r), some (ax_i x1), some (ax_i (x2 + (-1))), some (ax_i x3), some (ax_i x4), some (ax_i x5)]) ⟨_, rfl⟩ rfl rfl rfl rfl ?_
    refine ax_mv 1 83 [some (.ref r), some (ax_i x1), some (ax_i (x2 + (-1))), some (ax_i x3), some (ax_i x4), some (ax_i x5)] [] rfl ?_
    exact h
  · have h := h.2 (Int.not_le.mp hc)
    refine ax_mv 1 129 [some (.ref r), some (ax_i x1), some (ax_i x2), some (ax_i x3), some (ax_i x4), some (ax_i x5)] [ax_i x3] rfl ?_
    refine ax_if (p1 := 233) (p2 := 132) ⟨_, rfl⟩ (by decide) rfl hx3 (fun hc => ?_) (fun hc => ?_)
    · have h := h.1 hc
      refine ax_inc (x := x2) (pc' := 236) (L' := [some (.ref r), some (ax_i x1), some (ax_i (x2 + (-1))), some (ax_i x3), some (ax_i x4), some (ax_i x5)]) ⟨_, rfl⟩ rfl rfl rfl rfl ?_
      refine ax_mv 1 83 [some (.ref r), some (ax_i x1), some (ax_i (x2 + (-1))), some (ax_i x3), some (ax_i x4), some (ax_i x5)] [] rfl ?_
      exact h
    · have h := h.2 (Int.not_lt.mp hc)
      refine ax_mv 1 134 [some (.ref r), some (ax_i x1), some (ax_i x2), some (ax_i x3), some (ax_i x4), some (ax_i x5)] [ax_i x4] rfl ?_
      refine ax_bip (pc' := 136) ⟨_, rfl⟩ (by decide) rfl ?_
      refine ax_if2 (p1 := 166) (p2 := 139) ⟨_, rfl⟩ (by decide) rfl hx4 (by decide) (fun hc => ?_) (fun hc => ?_)
      · have h := h.2 hc
        refine ax_mv 1 168 [some (.ref r), some (ax_i x1), some (ax_i x2), some (ax_i x3), some (ax_i x4), some (ax_i x5)] [ax_i x4] rfl ?_
        refine ax_bip (pc' := 170) ⟨_, rfl⟩ (by decide) rfl ?_
        refine ax_if2 (p1 := 203) (p2 := 173) ⟨_, rfl⟩ (by decide) rfl hx4 (by decide) (fun hc => ?_) (fun hc => ?_)
        · have h := h.2 hc
          refine ax_mv 3 206 [some (.ref r), some (ax_i x1), some (ax_i x2), some (ax_i x3), some (ax_i x4), some (ax_i x5)] [.ref r, ax_i x3, .ref r] rfl ?_
          refine ax_gR (v := .ref (B + 16)) (pc' := 209) ⟨_, rfl⟩ fl_7_21 (az_e 0 rfl) rfl rfl ?_
          refine ax_gR (v := .ref (B + 29)) (pc' := 212) ⟨_, rfl⟩ fl_7_162 (az_b 16 rfl) rfl rfl ?_
          refine ax_mv 1 213 [some (.ref r), some (ax_i x1), some (ax_i x2), some (ax_i x3), some (ax_i x4), some (ax_i x5)] [ax_i x2, .ref (B + 29), ax_i x3, .ref r] rfl ?_
          obtain ⟨o10, h⟩ := h
          refine ax_ild (n := 700) (pc' := 214) ⟨_, rfl⟩ (az_b 29 rfl) (by decide) o10 rfl ?_
          refine ax_callN (pc' := 217) ⟨_, rfl⟩ ml_7_155 (rest := []) rfl (fun ss hs => ⟨_, _, (az_e 0 rfl) ss hs⟩) (Nat.le_of_ble_eq_true rfl) rfl rfl h (fun V1 hg1 h => ?_)
          refine ax_mv 1 218 [some (.ref r), some (ax_i x1), some (ax_i x2), some (ax_i x3), some (ax_i x4), some (ax_i x5)] [.ref r] rfl ?_
          refine ax_gR (v := .ref (B + 16)) (pc' := 221) ⟨_, rfl⟩ fl_7_21 (az_e 0 rfl) rfl rfl ?_
          refine ax_gR (v := .ref (B + 22)) (pc' := 224) ⟨_, rfl⟩ fl_7_163 (az_b 16 rfl) rfl rfl ?_
          refine ax_mv 1 225 [some (.ref r), some (ax_i x1), some (ax_i x2), some (ax_i x3), some (ax_i x4), some (ax_i x5)] [ax_i x3, .ref (B + 22)] rfl ?_
          obtain ⟨o11, h⟩ := h
          refine ax_ild (n := 700) (pc' := 226) ⟨_, rfl⟩ (az_b 22 rfl) (by decide) o11 rfl ?_
          refine ax_sti (i := 0) (k := 3) (n := 1) (pc' := 227) (L' := [some (.ref r), some (ax_i x1), some (ax_i x2), some (ax_i (V1 522 x3)), some (ax_i x4), some (ax_i x5)]) ⟨_, rfl⟩ rfl rfl rfl (Nat.le_of_ble_eq_true rfl) rfl rfl ?_
          refine ax_inc (x := x5) (pc' := 230) (L' := [some (.ref r), some (ax_i x1), some (ax_i x2), some (ax_i (V1 522 x3)), some (ax_i x4), some (ax_i (x5 + 1))]) ⟨_, rfl⟩ rfl rfl rfl rfl ?_
          refine ax_mv 1 120 [some (.ref r), some (ax_i x1), some (ax_i x2), some (ax_i (V1 522 x3)), some (ax_i x4), some (ax_i (x5 + 1))] [] rfl ?_
          exact h
        · have h := h.1 (Classical.not_not.mp hc)
          refine ax_mv 4 177 [some (.ref r), some (ax_i x1), some (ax_i x2), some (ax_i x3), some (ax_i x4), some (ax_i x5)] [.ref r, ax_i 2, ax_i x3, .ref r] rfl ?_
          refine ax_gR (v := .ref (B + 16)) (pc' := 180) ⟨_, rfl⟩ fl_7_21 (az_e 0 rfl) rfl rfl ?_
          refine ax_gR (v := .ref (B + 20)) (pc' := 183) ⟨_, rfl⟩ fl_7_93 (az_b 16 rfl) rfl rfl ?_
          refine ax_mv 1 184 [some (.ref r), some (ax_i x1), some (ax_i x2), some (ax_i x3), some (ax_i x4), some (ax_i x5)] [ax_i x2, .ref (B + 20), ax_i 2, ax_i x3, .ref r] rfl ?_
          obtain ⟨o12, h⟩ := h
          refine ax_ild (n := 700) (pc' := 185) ⟨_, rfl⟩ (az_b 20 rfl) (by decide) o12 rfl ?_
          refine ax_mul (pc' := 186) ⟨_, rfl⟩ rfl ?_
          refine ax_mv 1 188 [some (.ref r), some (ax_i x1), some (ax_i x2), some (ax_i x3), some (ax_i x4), some (ax_i x5)] [ax_i x5, ax_i (2 * (V 520 x2)), ax_i x3, .ref r] rfl ?_
          refine ax_if (p1 := 195) (p2 := 191) ⟨_, rfl⟩ (by decide) rfl hx5 (fun hc => ?_) (fun hc => ?_)
          · have h := h.2 hc
            refine ax_mv 1 196 [some (.ref r), some (ax_i x1), some (ax_i x2), some (ax_i x3), some (ax_i x4), some (ax_i x5)] [ax_i 1, ax_i (2 * (V 520 x2)), ax_i x3, .ref r] rfl ?_
            refine ax_add (pc' := 197) ⟨_, rfl⟩ rfl ?_
            refine ax_callN (pc' := 200) ⟨_, rfl⟩ ml_7_155 (rest := []) rfl (fun ss hs => ⟨_, _, (az_e 0 rfl) ss hs⟩) (Nat.le_of_ble_eq_true rfl) rfl rfl h (fun V2 hg2 h => ?_)
            refine ax_mv 2 218 [some (.ref r), some (ax_i x1), some (ax_i x2), some (ax_i x3), some (ax_i x4), some (ax_i x5)] [.ref r] rfl ?_
            refine ax_gR (v := .ref (B + 16)) (pc' := 221) ⟨_, rfl⟩ fl_7_21 (az_e 0 rfl) rfl rfl ?_
            refine ax_gR (v := .ref (B + 22)) (pc' := 224) ⟨_, rfl⟩ fl_7_163 (az_b 16 rfl) rfl rfl ?_
            refine ax_mv 1 225 [some (.ref r), some (ax_i x1), some (ax_i x2), some (ax_i x3), some (ax_i x4), some (ax_i x5)] [ax_i x3, .ref (B + 22)] rfl ?_
            obtain ⟨o13, h⟩ := h
            refine ax_ild (n := 700) (pc' := 226) ⟨_, rfl⟩ (az_b 22 rfl) (by decide) o13 rfl ?_
            refine ax_sti (i := 0) (k := 3) (n := 1) (pc' := 227) (L' := [some (.ref r), some (ax_i x1), some (ax_i x2), some (ax_i (V2 522 x3)), some (ax_i x4), some (ax_i x5)]) ⟨_, rfl⟩ rfl rfl rfl (Nat.le_of_ble_eq_true rfl) rfl rfl ?_
            refine ax_inc (x := x5) (pc' := 230) (L' := [some (.ref r), some (ax_i x1), some (ax_i x2), some (ax_i (V2 522 x3)), some (ax_i x4), some (ax_i (x5 + 1))]) ⟨_, rfl⟩ rfl rfl rfl rfl ?_
            refine ax_mv 1 120 [some (.ref r), some (ax_i x1), some (ax_i x2), some (ax_i (V2 522 x3)), some (ax_i x4), some (ax_i (x5 + 1))] [] rfl ?_
            exact h
          · have h := h.1 (Classical.not_not.mp hc)
            refine ax_mv 2 196 [some (.ref r), some (ax_i x1), some (ax_i x2), some (ax_i x3), some (ax_i x4), some (ax_i x5)] [ax_i 0, ax_i (2 * (V 520 x2)), ax_i x3, .ref r] rfl ?_
            refine ax_add (pc' := 197) ⟨_, rfl⟩ rfl ?_
            refine ax_callN (pc' := 200) ⟨_, rfl⟩ ml_7_155 (rest := []) rfl (fun ss hs => ⟨_, _, (az_e 0 rfl) ss hs⟩) (Nat.le_of_ble_eq_true rfl) rfl rfl h (fun V3 hg3 h => ?_)
            refine ax_mv 2 218 [some (.ref r), some (ax_i x1), some (ax_i x2), some (ax_i x3), some (ax_i x4), some (ax_i x5)] [.ref r] rfl ?_
            refine ax_gR (v := .ref (B + 16)) (pc' := 221) ⟨_, rfl⟩ fl_7_21 (az_e 0 rfl) rfl rfl ?_
            refine ax_gR (v := .ref (B + 22)) (pc' := 224) ⟨_, rfl⟩ fl_7_163 (az_b 16 rfl) rfl rfl ?_
            refine ax_mv 1 225 [some (.ref r), some (ax_i x1), some (ax_i x2), some (ax_i x3), some (ax_i x4), some (ax_i x5)] [ax_i x3, .ref (B + 22)] rfl ?_
            obtain ⟨o14, h⟩ := h
            refine ax_ild (n := 700) (pc' := 226) ⟨_, rfl⟩ (az_b 22 rfl) (by decide) o14 rfl ?_
            refine ax_sti (i := 0) (k := 3) (n := 1) (pc' := 227) (L' := [some (.ref r), some (ax_i x1), some (ax_i x2), some (ax_i (V3 522 x3)), some (ax_i x4), some (ax_i x5)]) ⟨_, rfl⟩ rfl rfl rfl (Nat.le_of_ble_eq_true rfl) rfl rfl ?_
            refine ax_inc (x := x5) (pc' := 230) (L' := [some (.ref r), some (ax_i x1), some (ax_i x2), some (ax_i (V3 522 x3)), some (ax_i x4), some (ax_i (x5 + 1))]) ⟨_, rfl⟩ rfl rfl rfl rfl ?_
            refine ax_mv 1 120 [some (.ref r), some (ax_i x1), some (ax_i x2), some (ax_i (V3 522 x3)), some (ax_i x4), some (ax_i (x5 + 1))] [] rfl ?_
            exact h
      · have h := h.1 (Classical.not_not.mp hc)
        refine ax_mv 3 142 [some (.ref r), some (ax_i x1), some (ax_i x2), some (ax_i x3), some (ax_i x4), some (ax_i x5)] [.ref r, ax_i x3, .ref r] rfl ?_
        refine ax_gR (v := .ref (B + 32)) (pc' := 145) ⟨_, rfl⟩ fl_7_26 (az_e 0 rfl) rfl rfl ?_
        refine ax_gR (v := .ref (B + 36)) (pc' := 148) ⟨_, rfl⟩ fl_7_146 (az_b 32 rfl) rfl rfl ?_
        refine ax_mv 1 149 [some (.ref r), some (ax_i x1), some (ax_i x2), some (ax_i x3), some (ax_i x4), some (ax_i x5)] [.ref r, .ref (B + 36), ax_i x3, .ref r] rfl ?_
        refine ax_gR (v := .ref (B + 16)) (pc' := 152) ⟨_, rfl⟩ fl_7_21 (az_e 0 rfl) rfl rfl ?_
        refine ax_gR (v := .ref (B + 20)) (pc' := 155) ⟨_, rfl⟩ fl_7_93 (az_b 16 rfl) rfl rfl ?_
        refine ax_mv 1 156 [some (.ref r), some (ax_i x1), some (ax_i x2), some (ax_i x3), some (ax_i x4), some (ax_i x5)] [ax_i x2, .ref (B + 20), .ref (B + 36), ax_i x3, .ref r] rfl ?_
        obtain ⟨o15, h⟩ := h
        refine ax_ild (n := 700) (pc' := 157) ⟨_, rfl⟩ (az_b 20 rfl) (by decide) o15 rfl ?_
        refine ax_mv 1 158 [some (.ref r), some (ax_i x1), some (ax_i x2), some (ax_i x3), some (ax_i x4), some (ax_i x5)] [ax_i 1, ax_i (V 520 x2), .ref (B + 36), ax_i x3, .ref r] rfl ?_
        refine ax_rshr (pc' := 159) ⟨_, rfl⟩ rfl ?_
        obtain ⟨o16, h⟩ := h
        refine ax_ild (n := 208) (pc' := 160) ⟨_, rfl⟩ (az_b 36 rfl) (by decide) o16 rfl ?_
        refine ax_callN (pc' := 163) ⟨_, rfl⟩ ml_7_155 (rest := []) rfl (fun ss hs => ⟨_, _, (az_e 0 rfl) ss hs⟩) (Nat.le_of_ble_eq_true rfl) rfl rfl h (fun V4 hg4 h => ?_)
        refine ax_mv 2 218 [some (.ref r), some (ax_i x1), some (ax_i x2), some (ax_i x3), some (ax_i x4), some (ax_i x5)] [.ref r] rfl ?_
        refine ax_gR (v := .ref (B + 16)) (pc' := 221) ⟨_, rfl⟩ fl_7_21 (az_e 0 rfl) rfl rfl ?_
        refine ax_gR (v := .ref (B + 22)) (pc' := 224) ⟨_, rfl⟩ fl_7_163 (az_b 16 rfl) rfl rfl ?_
        refine ax_mv 1 225 [some (.ref r), some (ax_i x1), some (ax_i x2), some (ax_i x3), some (ax_i x4), some (ax_i x5)] [ax_i x3, .ref (B + 22)] rfl ?_
        obtain ⟨o17, h⟩ := h
        refine ax_ild (n := 700) (pc' := 226) ⟨_, rfl⟩ (az_b 22 rfl) (by decide) o17 rfl ?_
        refine ax_sti (i := 0) (k := 3) (n := 1) (pc' := 227) (L' := [some (.ref r), some (ax_i x1), some (ax_i x2), some (ax_i (V4 522 x3)), some (ax_i x4), some (ax_i x5)]) ⟨_, rfl⟩ rfl rfl rfl (Nat.le_of_ble_eq_true rfl) rfl rfl ?_
        refine ax_inc (x := x5) (pc' := 230) (L' := [some (.ref r), some (ax_i x1), some (ax_i x2), some (ax_i (V4 522 x3)), some (ax_i x4), some (ax_i (x5 + 1))]) ⟨_, rfl⟩ rfl rfl rfl rfl ?_
        refine ax_mv 1 120 [some (.ref r), some (ax_i x1), some (ax_i x2), some (ax_i (V4 522 x3)), some (ax_i x4), some (ax_i (x5 + 1))] [] rfl ?_
        exact h
set_option maxRecDepth 20000 in
theorem r_Planner_settleClocks {B : Nat} {r : Nat} {d : Nat} {V : ax_V} {Φ : ax_V → Prop} {Θ : ax_V → Prop} {x1 : Int} (hg : ax_g V) (hx1 : ax_rg x1) (h : (0 ≤ x1 ∧ x1 < 9) ∧ k_Planner_settleClocks_10 B r d x1 (V 509 x1) none none none V Φ Θ) : ax_N (az_W B (az_EL B r)) (d + 1) q_Planner_settleClocks [.ref r, ax_i x1] V Φ Θ := by
  refine ax_T.of (M := m_Planner_settleClocks) rfl (Nat.le_of_ble_eq_true rfl) ?_
  refine ax_mv 0 0 [some (.ref r), some (ax_i x1), none, none, none, none] [] rfl ?_
  refine ax_mv 1 1 [some (.ref r), some (ax_i x1), none, none, none, none] [.ref r] rfl ?_
  refine ax_gR (v := .ref B) (pc' := 4) ⟨_, rfl⟩ fl_7_9 (az_e 0 rfl) rfl rfl ?_
  refine ax_gR (v := .ref (B + 9)) (pc' := 7) ⟨_, rfl⟩ fl_7_138 (az_b 0 rfl) rfl rfl ?_
  refine ax_mv 1 8 [some (.ref r), some (ax_i x1), none, none, none, none] [ax_i x1, .ref (B + 9)] rfl ?_
  obtain ⟨o18, h⟩ := h
  refine ax_ild (n := 9) (pc' := 9) ⟨_, rfl⟩ (az_b 9 rfl) (by decide) o18 rfl ?_
  refine ax_sti (i := 0) (k := 2) (n := 1) (pc' := 10) (L' := [some (.ref r), some (ax_i x1), some (ax_i (V 509 x1)), none, none, none]) ⟨_, rfl⟩ rfl rfl rfl (Nat.le_of_ble_eq_true rfl) rfl rfl ?_
  exact h
theorem r_Planner_settle {B : Nat} {r : Nat} {d : Nat} {V : ax_V} {Φ : ax_V → Prop} {Θ : ax_V → Prop} {x1 : Int} {x2 : Int} (hg : ax_g V) (hx1 : ax_rg x1) (hx2 : ax_rg x2) (h : (0 ≤ x1 ∧ x1 < 700) ∧ ((V 529 x1 = -2 → (0 ≤ x1 ∧ x1 < 700) ∧ (∀ V1, V1 = ax_u V 529 x1 x2 → Φ V1)) ∧ (¬ V 529 x1 = -2 → Φ V))) : ax_N (az_W B (az_EL B r)) (d + 1) q_Planner_settle [.ref r, ax_i x1, ax_i x2] V Φ Θ := by
  refine ax_T.of (M := m_Planner_settle) rfl (Nat.le_of_ble_eq_true rfl) ?_
  refine ax_mv 0 0 [some (.ref r), some (ax_i x1), some (ax_i x2)] [] rfl ?_
  refine ax_mv 1 1 [some (.ref r), some (ax_i x1), some (ax_i x2)] [.ref r] rfl ?_
  refine ax_gR (v := .ref (B + 16)) (pc' := 4) ⟨_, rfl⟩ fl_7_21 (az_e 0 rfl) rfl rfl ?_
  refine ax_gR (v := .ref (B + 29)) (pc' := 7) ⟨_, rfl⟩ fl_7_162 (az_b 16 rfl) rfl rfl ?_
  refine ax_mv 1 8 [some (.ref r), some (ax_i x1), some (ax_i x2)] [ax_i x1, .ref (B + 29)] rfl ?_
  obtain ⟨o1, h⟩ := h
  refine ax_ild (n := 700) (pc' := 9) ⟨_, rfl⟩ (az_b 29 rfl) (by decide) o1 rfl ?_
  refine ax_bip (pc' := 11) ⟨_, rfl⟩ (by decide) rfl ?_
  refine ax_if2 (p1 := 24) (p2 := 14) ⟨_, rfl⟩ (by decide) rfl (hg _ _) (by decide) (fun hc => ?_) (fun hc => ?_)
  · have h := h.2 hc
    exact ax_nret ⟨_, rfl⟩ rfl hg h
  · have h := h.1 (Classical.not_not.mp hc)
    refine ax_mv 1 15 [some (.ref r), some (ax_i x1), some (ax_i x2)] [.ref r] rfl ?_
    refine ax_gR (v := .ref (B + 16)) (pc' := 18) ⟨_, rfl⟩ fl_7_21 (az_e 0 rfl) rfl rfl ?_
    refine ax_gR (v := .ref (B + 29)) (pc' := 21) ⟨_, rfl⟩ fl_7_162 (az_b 16 rfl) rfl rfl ?_
    refine ax_mv 2 23 [some (.ref r), some (ax_i x1), some (ax_i x2)] [ax_i x2, ax_i x1, .ref (B + 29)] rfl ?_
    obtain ⟨o2, h⟩ := h
    obtain ⟨V1, eV1⟩ : ∃ W9 : ax_V, W9 = ax_u V 529 x1 x2 := ⟨_, rfl⟩
    have h := h V1 eV1
    have hg1 : ax_g V1 := eV1 ▸ ax_u_g hg hx2
    refine ax_ist (n := 700) (pc' := 24) ⟨_, rfl⟩ az_ok (az_b 29 rfl) (by decide) o2 eV1 rfl ?_
    exact ax_nret ⟨_, rfl⟩ rfl hg1 h
abbrev k_Planner_schedule_51 (B : Nat) (r : Nat) (d : Nat) (x1 : Int) (x2 : Int) (x3 : Int) (y4 : Option Value) (y5 : Option Value) (V : ax_V) (Φ : ax_V → Prop) (Θ : ax_V → Prop) : Prop := ax_R (az_W B (az_EL B r)) ax_t d m_Planner_schedule 51 [some (.ref r), some (ax_i x1), some (ax_i x2), some (ax_i x3), y4, y5] [] V (ax_Nr Φ) Θ
theorem r_Planner_schedule_51 {B : Nat} {r : Nat} {d : Nat} {V : ax_V} {Φ : ax_V → Prop} {Θ : ax_V → Prop} {x1 : Int} {x2 : Int} {x3 : Int} {y4 : Option Value} {y5 : Option Value} (hg : ax_g V) (hx1 : ax_rg x1) (hx2 : ax_rg x2) (hx3 : ax_rg x3) (hy4 : ax_y y4) (hy5 : ax_y y5) (h : ((x2 < x3 → ax_N (az_W B (az_EL B r)) d q_Planner_scheduleEnd [.ref r, ax_i x1] V (fun V1 => Φ V1) Θ) ∧ (x3 ≤ x2 → ax_I (az_W B (az_EL B r)) d q_Planner_scheduleStrong [.ref r, ax_i x1] V (fun r2 V2 => ax_I (az_W B (az_EL B r)) d q_Planner_scheduleEquations [.ref r, ax_i x1] V2 (fun r3 V3 => ((r2 = 0 → ((r3 = 0 → ax_N (az_W B (az_EL B r)) d q_Planner_scheduleEnd [.ref r, ax_i x1] V3 (fun V4 => Φ V4) Θ) ∧ (¬ r3 = 0 → k_Planner_schedule_51 B r d x1 x2 (x3 + 1) (some (ax_i r2)) (some (ax_i r3)) V3 Φ Θ))) ∧ (¬ r2 = 0 → k_Planner_schedule_51 B r d x1 x2 (x3 + 1) (some (ax_i r2)) (some (ax_i r3)) V3 Φ Θ))) Θ) Θ))) : k_Planner_schedule_51 B r d x1 x2 x3 y4 y5 V Φ Θ := by
  refine ax_mv 2 53 [some (.ref r), some (ax_i x1), some (ax_i x2), some (ax_i x3), y4, y5] [ax_i x2, ax_i x3] rfl ?_
  refine ax_if2 (p1 := 89) (p2 := 56) ⟨_, rfl⟩ (by decide) rfl hx3 hx2 (fun hc => ?_) (fun hc => ?_)
  · have h := h.1 hc
    refine ax_mv 2 91 [some (.ref r), some (ax_i x1), some (ax_i x2), some (ax_i x3), y4, y5] [ax_i x1, .ref r] rfl ?_
    refine ax_callN (pc' := 94) ⟨_, rfl⟩ ml_7_177 (rest := []) rfl (fun ss hs => ⟨_, _, (az_e 0 rfl) ss hs⟩) (Nat.le_of_ble_eq_true rfl) rfl rfl h (fun V1 hg1 h => ?_)
    exact ax_nret ⟨_, rfl⟩ rfl hg1 h
  · have h := h.2 (Int.not_lt.mp hc)
    refine ax_mv 2 58 [some (.ref r), some (ax_i x1), some (ax_i x2), some (ax_i x3), y4, y5] [ax_i x1, .ref r] rfl ?_
    refine ax_callI (pc' := 61) ⟨_, rfl⟩ ml_7_171 (rest := []) rfl (fun ss hs => ⟨_, _, (az_e 0 rfl) ss hs⟩) (Nat.le_of_ble_eq_true rfl) rfl rfl h (fun r2 V2 hg2 hr2 h => ?_)
    refine ax_sti (i := 0) (k := 4) (n := 2) (pc' := 63) (L' := [some (.ref r), some (ax_i x1), some (ax_i x2), some (ax_i x3), some (ax_i r2), y5]) ⟨_, rfl⟩ rfl rfl rfl (Nat.le_of_ble_eq_true rfl) rfl rfl ?_
    refine ax_mv 2 65 [some (.ref r), some (ax_i x1), some (ax_i x2), some (ax_i x3), some (ax_i r2), y5] [ax_i x1, .ref r] rfl ?_
    refine ax_callI (pc' := 68) ⟨_, rfl⟩ ml_7_174 (rest := []) rfl (fun ss hs => ⟨_, _, (az_e 0 rfl) ss hs⟩) (Nat.le_of_ble_eq_true rfl) rfl rfl h (fun r3 V3 hg3 hr3 h => ?_)
    refine ax_sti (i := 0) (k := 5) (n := 2) (pc' := 70) (L' := [some (.ref r), some (ax_i x1), some (ax_i x2), some (ax_i x3), some (ax_i r2), some (ax_i r3)]) ⟨_, rfl⟩ rfl rfl rfl (Nat.le_of_ble_eq_true rfl) rfl rfl ?_
    refine ax_mv 1 72 [some (.ref r), some (ax_i x1), some (ax_i x2), some (ax_i x3), some (ax_i r2), some (ax_i r3)] [ax_i r2] rfl ?_
    refine ax_if (p1 := 83) (p2 := 75) ⟨_, rfl⟩ (by decide) rfl hr2 (fun hc => ?_) (fun hc => ?_)
    · have h := h.2 hc
      refine ax_inc (x := x3) (pc' := 86) (L' := [some (.ref r), some (ax_i x1), some (ax_i x2), some (ax_i (x3 + 1)), some (ax_i r2), some (ax_i r3)]) ⟨_, rfl⟩ rfl rfl rfl rfl ?_
      refine ax_mv 1 51 [some (.ref r), some (ax_i x1), some (ax_i x2), some (ax_i (x3 + 1)), some (ax_i r2), some (ax_i r3)] [] rfl ?_
      exact h
    · have h := h.1 (Classical.not_not.mp hc)
      refine ax_mv 1 77 [some (.ref r), some (ax_i x1), some (ax_i x2), some (ax_i x3), some (ax_i r2), some (ax_i r3)] [ax_i r3] rfl ?_
      refine ax_if (p1 := 83) (p2 := 80) ⟨_, rfl⟩ (by decide) rfl hr3 (fun hc => ?_) (fun hc => ?_)
      · have h := h.2 hc
        refine ax_inc (x := x3) (pc' := 86) (L' := [some (.ref r), some (ax_i x1), some (ax_i x2), some (ax_i (x3 + 1)), some (ax_i r2), some (ax_i r3)]) ⟨_, rfl⟩ rfl rfl rfl rfl ?_
        refine ax_mv 1 51 [some (.ref r), some (ax_i x1), some (ax_i x2), some (ax_i (x3 + 1)), some (ax_i r2), some (ax_i r3)] [] rfl ?_
        exact h
      · have h := h.1 (Classical.not_not.mp hc)
        refine ax_mv 3 91 [some (.ref r), some (ax_i x1), some (ax_i x2), some (ax_i x3), some (ax_i r2), some (ax_i r3)] [ax_i x1, .ref r] rfl ?_
        refine ax_callN (pc' := 94) ⟨_, rfl⟩ ml_7_177 (rest := []) rfl (fun ss hs => ⟨_, _, (az_e 0 rfl) ss hs⟩) (Nat.le_of_ble_eq_true rfl) rfl rfl h (fun V4 hg4 h => ?_)
        exact ax_nret ⟨_, rfl⟩ rfl hg4 h
theorem r_Planner_schedule {B : Nat} {r : Nat} {d : Nat} {V : ax_V} {Φ : ax_V → Prop} {Θ : ax_V → Prop} {x1 : Int} (hg : ax_g V) (hx1 : ax_rg x1) (h : ax_N (az_W B (az_EL B r)) d q_Planner_beginSchedule [.ref r, ax_i x1] V (fun V1 => (0 ≤ x1 + 1 ∧ x1 + 1 < 9) ∧ (0 ≤ x1 ∧ x1 < 9) ∧ (0 ≤ x1 + 1 ∧ x1 + 1 < 9) ∧ (0 ≤ x1 ∧ x1 < 9) ∧ k_Planner_schedule_51 B r d x1 ((((V1 509 (x1 + 1)) - (V1 509 x1)) + (V1 510 (x1 + 1))) - (V1 510 x1)) 0 none none V1 Φ Θ) Θ) : ax_N (az_W B (az_EL B r)) (d + 1) q_Planner_schedule [.ref r, ax_i x1] V Φ Θ := by
  refine ax_T.of (M := m_Planner_schedule) rfl (Nat.le_of_ble_eq_true rfl) ?_
  refine ax_mv 0 0 [some (.ref r), some (ax_i x1), none, none, none, none] [] rfl ?_
  refine ax_mv 2 2 [some (.ref r), some (ax_i x1), none, none, none, none] [ax_i x1, .ref r] rfl ?_
  refine ax_callN (pc' := 5) ⟨_, rfl⟩ ml_7_168 (rest := []) rfl (fun ss hs => ⟨_, _, (az_e 0 rfl) ss hs⟩) (Nat.le_of_ble_eq_true rfl) rfl rfl h (fun V1 hg1 h => ?_)
  refine ax_mv 1 6 [some (.ref r), some (ax_i x1), none, none, none, none] [.ref r] rfl ?_
  refine ax_gR (v := .ref B) (pc' := 9) ⟨_, rfl⟩ fl_7_9 (az_e 0 rfl) rfl rfl ?_
  refine ax_gR (v := .ref (B + 9)) (pc' := 12) ⟨_, rfl⟩ fl_7_138 (az_b 0 rfl) rfl rfl ?_
  refine ax_mv 2 14 [some (.ref r), some (ax_i x1), none, none, none, none] [ax_i 1, ax_i x1, .ref (B + 9)] rfl ?_
  refine ax_add (pc' := 15) ⟨_, rfl⟩ rfl ?_
  obtain ⟨o1, h⟩ := h
  refine ax_ild (n := 9) (pc' := 16) ⟨_, rfl⟩ (az_b 9 rfl) (by decide) o1 rfl ?_
  refine ax_mv 1 17 [some (.ref r), some (ax_i x1), none, none, none, none] [.ref r, ax_i (V1 509 (x1 + 1))] rfl ?_
  refine ax_gR (v := .ref B) (pc' := 20) ⟨_, rfl⟩ fl_7_9 (az_e 0 rfl) rfl rfl ?_
  refine ax_gR (v := .ref (B + 9)) (pc' := 23) ⟨_, rfl⟩ fl_7_138 (az_b 0 rfl) rfl rfl ?_
  refine ax_mv 1 24 [some (.ref r), some (ax_i x1), none, none, none, none] [ax_i x1, .ref (B + 9), ax_i (V1 509 (x1 + 1))] rfl ?_
  obtain ⟨o2, h⟩ := h
  refine ax_ild (n := 9) (pc' := 25) ⟨_, rfl⟩ (az_b 9 rfl) (by decide) o2 rfl ?_
  refine ax_sub (pc' := 26) ⟨_, rfl⟩ rfl ?_
  refine ax_mv 1 27 [some (.ref r), some (ax_i x1), none, none, none, none] [.ref r, ax_i ((V1 509 (x1 + 1)) - (V1 509 x1))] rfl ?_
  refine ax_gR (v := .ref B) (pc' := 30) ⟨_, rfl⟩ fl_7_9 (az_e 0 rfl) rfl rfl ?_
  refine ax_gR (v := .ref (B + 10)) (pc' := 33) ⟨_, rfl⟩ fl_7_68 (az_b 0 rfl) rfl rfl ?_
  refine ax_mv 2 35 [some (.ref r), some (ax_i x1), none, none, none, none] [ax_i 1, ax_i x1, .ref (B + 10), ax_i ((V1 509 (x1 + 1)) - (V1 509 x1))] rfl ?_
  refine ax_add (pc' := 36) ⟨_, rfl⟩ rfl ?_
  obtain ⟨o3, h⟩ := h
  refine ax_ild (n := 9) (pc' := 37) ⟨_, rfl⟩ (az_b 10 rfl) (by decide) o3 rfl ?_
  refine ax_add (pc' := 38) ⟨_, rfl⟩ rfl ?_
  refine ax_mv 1 39 [some (.ref r), some (ax_i x1), none, none, none, none] [.ref r, ax_i (((V1 509 (x1 + 1)) - (V1 509 x1)) + (V1 510 (x1 + 1)))] rfl ?_
  refine ax_gR (v := .ref B) (pc' := 42) ⟨_, rfl⟩ fl_7_9 (az_e 0 rfl) rfl rfl ?_
  refine ax_gR (v := .ref (B + 10)) (pc' := 45) ⟨_, rfl⟩ fl_7_68 (az_b 0 rfl) rfl rfl ?_
  refine ax_mv 1 46 [some (.ref r), some (ax_i x1), none, none, none, none] [ax_i x1, .ref (B + 10), ax_i (((V1 509 (x1 + 1)) - (V1 509 x1)) + (V1 510 (x1 + 1)))] rfl ?_
  obtain ⟨o4, h⟩ := h
  refine ax_ild (n := 9) (pc' := 47) ⟨_, rfl⟩ (az_b 10 rfl) (by decide) o4 rfl ?_
  refine ax_sub (pc' := 48) ⟨_, rfl⟩ rfl ?_
  refine ax_sti (i := 0) (k := 2) (n := 1) (pc' := 49) (L' := [some (.ref r), some (ax_i x1), some (ax_i ((((V1 509 (x1 + 1)) - (V1 509 x1)) + (V1 510 (x1 + 1))) - (V1 510 x1))), none, none, none]) ⟨_, rfl⟩ rfl rfl rfl (Nat.le_of_ble_eq_true rfl) rfl rfl ?_
  refine ax_mv 1 50 [some (.ref r), some (ax_i x1), some (ax_i ((((V1 509 (x1 + 1)) - (V1 509 x1)) + (V1 510 (x1 + 1))) - (V1 510 x1))), none, none, none] [ax_i 0] rfl ?_
  refine ax_sti (i := 0) (k := 3) (n := 1) (pc' := 51) (L' := [some (.ref r), some (ax_i x1), some (ax_i ((((V1 509 (x1 + 1)) - (V1 509 x1)) + (V1 510 (x1 + 1))) - (V1 510 x1))), some (ax_i 0), none, none]) ⟨_, rfl⟩ rfl rfl rfl (Nat.le_of_ble_eq_true rfl) rfl rfl ?_
  exact h
abbrev k_Planner_beginSchedule_7 (B : Nat) (r : Nat) (d : Nat) (x1 : Int) (x2 : Int) (y3 : Option Value) (V : ax_V) (Φ : ax_V → Prop) (Θ : ax_V → Prop) : Prop := ax_R (az_W B (az_EL B r)) ax_t d m_Planner_beginSchedule 7 [some (.ref r), some (ax_i x1), some (ax_i x2), y3] [] V (ax_Nr Φ) Θ
abbrev k_Planner_beginSchedule_62 (B : Nat) (r : Nat) (d : Nat) (x1 : Int) (x2 : Int) (y3 : Option Value) (V : ax_V) (Φ : ax_V → Prop) (Θ : ax_V → Prop) : Prop := ax_R (az_W B (az_EL B r)) ax_t d m_Planner_beginSchedule 62 [some (.ref r), some (ax_i x1), some (ax_i x2), y3] [] V (ax_Nr Φ) Θ
abbrev k_Planner_beginSchedule_87 (B : Nat) (r : Nat) (d : Nat) (x1 : Int) (x2 : Int) (x3 : Int) (V : ax_V) (Φ : ax_V → Prop) (Θ : ax_V → Prop) : Prop := ax_R (az_W B (az_EL B r)) ax_t d m_Planner_beginSchedule 87 [some (.ref r), some (ax_i x1), some (ax_i x2), some (ax_i x3)] [] V (ax_Nr Φ) Θ
set_option maxRecDepth 20000 in
theorem r_Planner_beginSchedule_7 {B : Nat} {r : Nat} {d : Nat} {V : ax_V} {Φ : ax_V → Prop} {Θ : ax_V → Prop} {x1 : Int} {x2 : Int} {y3 : Option Value} (hg : ax_g V) (hx1 : ax_rg x1) (hx2 : ax_rg x2) (hy3 : ax_y y3) (h : (0 ≤ x1 ∧ x1 < 8) ∧ ((V 503 x1 ≤ x2 → (0 ≤ x1 ∧ x1 < 9) ∧ k_Planner_beginSchedule_62 B r d x1 (V 509 x1) y3 V Φ Θ) ∧ (x2 < V 503 x1 → (0 ≤ (x1 * 26) + x2 ∧ (x1 * 26) + x2 < 208) ∧ ax_I (az_W B (az_EL B r)) d q_Letters_bit [ax_i (V 506 ((x1 * 26) + x2))] V (fun r1 V1 => (∀ V2, V2 = ax_u V1 602 6 (ax_or (V 602 6) r1) → k_Planner_beginSchedule_7 B r d x1 (x2 + 1) y3 V2 Φ Θ)) (fun _ => False)))) : k_Planner_beginSchedule_7 B r d x1 x2 y3 V Φ Θ := by
  refine ax_mv 2 9 [some (.ref r), some (ax_i x1), some (ax_i x2), y3] [.ref r, ax_i x2] rfl ?_
  refine ax_gR (v := .ref B) (pc' := 12) ⟨_, rfl⟩ fl_7_9 (az_e 0 rfl) rfl rfl ?_
  refine ax_gR (v := .ref (B + 3)) (pc' := 15) ⟨_, rfl⟩ fl_7_183 (az_b 0 rfl) rfl rfl ?_
  refine ax_mv 1 16 [some (.ref r), some (ax_i x1), some (ax_i x2), y3] [ax_i x1, .ref (B + 3), ax_i x2] rfl ?_
  obtain ⟨o1, h⟩ := h
  refine ax_ild (n := 8) (pc' := 17) ⟨_, rfl⟩ (az_b 3 rfl) (by decide) o1 rfl ?_
  refine ax_if2 (p1 := 52) (p2 := 20) ⟨_, rfl⟩ (by decide) rfl hx2 (hg _ _) (fun hc => ?_) (fun hc => ?_)
  · have h := h.1 hc
    refine ax_mv 1 53 [some (.ref r), some (ax_i x1), some (ax_i x2), y3] [.ref r] rfl ?_
    refine ax_gR (v := .ref B) (pc' := 56) ⟨_, rfl⟩ fl_7_9 (az_e 0 rfl) rfl rfl ?_
    refine ax_gR (v := .ref (B + 9)) (pc' := 59) ⟨_, rfl⟩ fl_7_138 (az_b 0 rfl) rfl rfl ?_
    refine ax_mv 1 60 [some (.ref r), some (ax_i x1), some (ax_i x2), y3] [ax_i x1, .ref (B + 9)] rfl ?_
    obtain ⟨o2, h⟩ := h
    refine ax_ild (n := 9) (pc' := 61) ⟨_, rfl⟩ (az_b 9 rfl) (by decide) o2 rfl ?_
    refine ax_sti (i := 0) (k := 2) (n := 1) (pc' := 62) (L' := [some (.ref r), some (ax_i x1), some (ax_i (V 509 x1)), y3]) ⟨_, rfl⟩ rfl rfl rfl (Nat.le_of_ble_eq_true rfl) rfl rfl ?_
    exact h
  · have h := h.2 (Int.not_le.mp hc)
    refine ax_mv 2 22 [some (.ref r), some (ax_i x1), some (ax_i x2), y3] [.ref r, .ref r] rfl ?_
    refine ax_gI (kI := 6) (pc' := 25) ⟨_, rfl⟩ fl_7_180 (az_e 0 rfl) rfl rfl rfl ?_
    refine ax_mv 1 26 [some (.ref r), some (ax_i x1), some (ax_i x2), y3] [.ref r, ax_i (V 602 6), .ref r] rfl ?_
    refine ax_gR (v := .ref B) (pc' := 29) ⟨_, rfl⟩ fl_7_9 (az_e 0 rfl) rfl rfl ?_
    refine ax_gR (v := .ref (B + 6)) (pc' := 32) ⟨_, rfl⟩ fl_7_186 (az_b 0 rfl) rfl rfl ?_
    refine ax_mv 1 33 [some (.ref r), some (ax_i x1), some (ax_i x2), y3] [ax_i x1, .ref (B + 6), ax_i (V 602 6), .ref r] rfl ?_
    refine ax_bip (pc' := 35) ⟨_, rfl⟩ (by decide) rfl ?_
    refine ax_mul (pc' := 36) ⟨_, rfl⟩ rfl ?_
    refine ax_mv 1 37 [some (.ref r), some (ax_i x1), some (ax_i x2), y3] [ax_i x2, ax_i (x1 * 26), .ref (B + 6), ax_i (V 602 6), .ref r] rfl ?_
    refine ax_add (pc' := 38) ⟨_, rfl⟩ rfl ?_
    obtain ⟨o3, h⟩ := h
    refine ax_ild (n := 208) (pc' := 39) ⟨_, rfl⟩ (az_b 6 rfl) (by decide) o3 rfl ?_
    refine ax_callS (pc' := 42) ⟨_, rfl⟩ ml_7_189 (Nat.le_of_ble_eq_true rfl) (Nat.le_of_ble_eq_true rfl) rfl h (fun r1 V1 hg1 hr1 h => ?_)
    refine ax_mv 0 42 [some (.ref r), some (ax_i x1), some (ax_i x2), y3] [ax_i r1, ax_i (V 602 6), .ref r] rfl ?_
    refine ax_ror (pc' := 43) ⟨_, rfl⟩ rfl ?_
    obtain ⟨V2, eV2⟩ : ∃ W9 : ax_V, W9 = ax_u V1 602 6 (ax_or (V 602 6) r1) := ⟨_, rfl⟩
    have h := h V2 eV2
    have hg2 : ax_g V2 := eV2 ▸ ax_u_g hg1 (ax_rg_of _)
    refine ax_pI (kI := 6) (pc' := 46) ⟨_, rfl⟩ fl_7_180 az_ok (az_e 0 rfl) rfl rfl rfl rfl eV2 rfl ?_
    refine ax_inc (x := x2) (pc' := 49) (L' := [some (.ref r), some (ax_i x1), some (ax_i (x2 + 1)), y3]) ⟨_, rfl⟩ rfl rfl rfl rfl ?_
    refine ax_mv 1 7 [some (.ref r), some (ax_i x1), some (ax_i (x2 + 1)), y3] [] rfl ?_
    exact h
set_option maxRecDepth 20000 in
theorem r_Planner_beginSchedule_62 {B : Nat} {r : Nat} {d : Nat} {V : ax_V} {Φ : ax_V → Prop} {Θ : ax_V → Prop} {x1 : Int} {x2 : Int} {y3 : Option Value} (hg : ax_g V) (hx1 : ax_rg x1) (hx2 : ax_rg x2) (hy3 : ax_y y3) (h : (0 ≤ x1 + 1 ∧ x1 + 1 < 9) ∧ ((V 509 (x1 + 1) ≤ x2 → Φ V) ∧ (x2 < V 509 (x1 + 1) → (0 ≤ x2 ∧ x2 < 351) ∧ k_Planner_beginSchedule_87 B r d x1 x2 (V 548 x2) V Φ Θ))) : k_Planner_beginSchedule_62 B r d x1 x2 y3 V Φ Θ := by
  refine ax_mv 2 64 [some (.ref r), some (ax_i x1), some (ax_i x2), y3] [.ref r, ax_i x2] rfl ?_
  refine ax_gR (v := .ref B) (pc' := 67) ⟨_, rfl⟩ fl_7_9 (az_e 0 rfl) rfl rfl ?_
  refine ax_gR (v := .ref (B + 9)) (pc' := 70) ⟨_, rfl⟩ fl_7_138 (az_b 0 rfl) rfl rfl ?_
  refine ax_mv 2 72 [some (.ref r), some (ax_i x1), some (ax_i x2), y3] [ax_i 1, ax_i x1, .ref (B + 9), ax_i x2] rfl ?_
  refine ax_add (pc' := 73) ⟨_, rfl⟩ rfl ?_
  obtain ⟨o4, h⟩ := h
  refine ax_ild (n := 9) (pc' := 74) ⟨_, rfl⟩ (az_b 9 rfl) (by decide) o4 rfl ?_
  refine ax_if2 (p1 := 135) (p2 := 77) ⟨_, rfl⟩ (by decide) rfl hx2 (hg _ _) (fun hc => ?_) (fun hc => ?_)
  · have h := h.1 hc
    exact ax_nret ⟨_, rfl⟩ rfl hg h
  · have h := h.2 (Int.not_le.mp hc)
    refine ax_mv 1 78 [some (.ref r), some (ax_i x1), some (ax_i x2), y3] [.ref r] rfl ?_
    refine ax_gR (v := .ref (B + 47)) (pc' := 81) ⟨_, rfl⟩ fl_7_31 (az_e 0 rfl) rfl rfl ?_
    refine ax_gR (v := .ref (B + 48)) (pc' := 84) ⟨_, rfl⟩ fl_7_152 (az_b 47 rfl) rfl rfl ?_
    refine ax_mv 1 85 [some (.ref r), some (ax_i x1), some (ax_i x2), y3] [ax_i x2, .ref (B + 48)] rfl ?_
    obtain ⟨o5, h⟩ := h
    refine ax_ild (n := 351) (pc' := 86) ⟨_, rfl⟩ (az_b 48 rfl) (by decide) o5 rfl ?_
    refine ax_sti (i := 0) (k := 3) (n := 1) (pc' := 87) (L' := [some (.ref r), some (ax_i x1), some (ax_i x2), some (ax_i (V 548 x2))]) ⟨_, rfl⟩ rfl rfl rfl (Nat.le_of_ble_eq_true rfl) rfl rfl ?_
    exact h
set_option maxRecDepth 20000 in
theorem r_Planner_beginSchedule_87 {B : Nat} {r : Nat} {d : Nat} {V : ax_V} {Φ : ax_V → Prop} {Θ : ax_V → Prop} {x1 : Int} {x2 : Int} {x3 : Int} (hg : ax_g V) (hx1 : ax_rg x1) (hx2 : ax_rg x2) (hx3 : ax_rg x3) (h : (0 ≤ x2 + 1 ∧ x2 + 1 < 351) ∧ ((V 548 (x2 + 1) ≤ x3 → k_Planner_beginSchedule_62 B r d x1 (x2 + 1) (some (ax_i x3)) V Φ Θ) ∧ (x3 < V 548 (x2 + 1) → (0 ≤ x3 ∧ x3 < 350) ∧ (0 ≤ V 554 x3 ∧ V 554 x3 < 208) ∧ (0 ≤ V 554 x3 ∧ V 554 x3 < 208) ∧ ax_rg ((V 546 (V 554 x3)) + 1) ∧ (∀ V1, V1 = ax_u V 546 (V 554 x3) ((V 546 (V 554 x3)) + 1) → k_Planner_beginSchedule_87 B r d x1 x2 (x3 + 1) V1 Φ Θ)))) : k_Planner_beginSchedule_87 B r d x1 x2 x3 V Φ Θ := by
  refine ax_mv 2 89 [some (.ref r), some (ax_i x1), some (ax_i x2), some (ax_i x3)] [.ref r, ax_i x3] rfl ?_
  refine ax_gR (v := .ref (B + 47)) (pc' := 92) ⟨_, rfl⟩ fl_7_31 (az_e 0 rfl) rfl rfl ?_
  refine ax_gR (v := .ref (B + 48)) (pc' := 95) ⟨_, rfl⟩ fl_7_152 (az_b 47 rfl) rfl rfl ?_
  refine ax_mv 2 97 [some (.ref r), some (ax_i x1), some (ax_i x2), some (ax_i x3)] [ax_i 1, ax_i x2, .ref (B + 48), ax_i x3] rfl ?_
  refine ax_add (pc' := 98) ⟨_, rfl⟩ rfl ?_
  obtain ⟨o6, h⟩ := h
  refine ax_ild (n := 351) (pc' := 99) ⟨_, rfl⟩ (az_b 48 rfl) (by decide) o6 rfl ?_
  refine ax_if2 (p1 := 129) (p2 := 102) ⟨_, rfl⟩ (by decide) rfl hx3 (hg _ _) (fun hc => ?_) (fun hc => ?_)
  · have h := h.1 hc
    refine ax_inc (x := x2) (pc' := 132) (L' := [some (.ref r), some (ax_i x1), some (ax_i (x2 + 1)), some (ax_i x3)]) ⟨_, rfl⟩ rfl rfl rfl rfl ?_
    refine ax_mv 1 62 [some (.ref r), some (ax_i x1), some (ax_i (x2 + 1)), some (ax_i x3)] [] rfl ?_
    exact h
  · have h := h.2 (Int.not_le.mp hc)
    refine ax_mv 1 103 [some (.ref r), some (ax_i x1), some (ax_i x2), some (ax_i x3)] [.ref r] rfl ?_
    refine ax_gR (v := .ref (B + 32)) (pc' := 106) ⟨_, rfl⟩ fl_7_26 (az_e 0 rfl) rfl rfl ?_
    refine ax_gR (v := .ref (B + 46)) (pc' := 109) ⟨_, rfl⟩ fl_7_192 (az_b 32 rfl) rfl rfl ?_
    refine ax_mv 1 110 [some (.ref r), some (ax_i x1), some (ax_i x2), some (ax_i x3)] [.ref r, .ref (B + 46)] rfl ?_
    refine ax_gR (v := .ref (B + 47)) (pc' := 113) ⟨_, rfl⟩ fl_7_31 (az_e 0 rfl) rfl rfl ?_
    refine ax_gR (v := .ref (B + 54)) (pc' := 116) ⟨_, rfl⟩ fl_7_149 (az_b 47 rfl) rfl rfl ?_
    refine ax_mv 1 117 [some (.ref r), some (ax_i x1), some (ax_i x2), some (ax_i x3)] [ax_i x3, .ref (B + 54), .ref (B + 46)] rfl ?_
    obtain ⟨o7, h⟩ := h
    refine ax_ild (n := 350) (pc' := 118) ⟨_, rfl⟩ (az_b 54 rfl) (by decide) o7 rfl ?_
    refine ax_mv 1 119 [some (.ref r), some (ax_i x1), some (ax_i x2), some (ax_i x3)] [ax_i (V 554 x3), .ref (B + 46), ax_i (V 554 x3), .ref (B + 46)] rfl ?_
    obtain ⟨o8, h⟩ := h
    refine ax_ild (n := 208) (pc' := 120) ⟨_, rfl⟩ (az_b 46 rfl) (by decide) o8 rfl ?_
    refine ax_mv 1 121 [some (.ref r), some (ax_i x1), some (ax_i x2), some (ax_i x3)] [ax_i 1, ax_i (V 546 (V 554 x3)), ax_i (V 554 x3), .ref (B + 46)] rfl ?_
    refine ax_add (pc' := 122) ⟨_, rfl⟩ rfl ?_
    obtain ⟨o9, o10, h⟩ := h
    obtain ⟨V1, eV1⟩ : ∃ W9 : ax_V, W9 = ax_u V 546 (V 554 x3) ((V 546 (V 554 x3)) + 1) := ⟨_, rfl⟩
    have h := h V1 eV1
    have hg1 : ax_g V1 := eV1 ▸ ax_u_g hg o10
    refine ax_ist (n := 208) (pc' := 123) ⟨_, rfl⟩ az_ok (az_b 46 rfl) (by decide) o9 eV1 rfl ?_
    refine ax_inc (x := x3) (pc' := 126) (L' := [some (.ref r), some (ax_i x1), some (ax_i x2), some (ax_i (x3 + 1))]) ⟨_, rfl⟩ rfl rfl rfl rfl ?_
    refine ax_mv 1 87 [some (.ref r), some (ax_i x1), some (ax_i x2), some (ax_i (x3 + 1))] [] rfl ?_
    exact h
set_option maxRecDepth 20000 in
theorem r_Planner_beginSchedule {B : Nat} {r : Nat} {d : Nat} {V : ax_V} {Φ : ax_V → Prop} {Θ : ax_V → Prop} {x1 : Int} (hg : ax_g V) (hx1 : ax_rg x1) (h : (∀ V1, V1 = ax_u V 602 6 0 → k_Planner_beginSchedule_7 B r d x1 0 none V1 Φ Θ)) : ax_N (az_W B (az_EL B r)) (d + 1) q_Planner_beginSchedule [.ref r, ax_i x1] V Φ Θ := by
  refine ax_T.of (M := m_Planner_beginSchedule) rfl (Nat.le_of_ble_eq_true rfl) ?_
  refine ax_mv 0 0 [some (.ref r), some (ax_i x1), none, none] [] rfl ?_
  refine ax_mv 2 2 [some (.ref r), some (ax_i x1), none, none] [ax_i 0, .ref r] rfl ?_
  obtain ⟨V1, eV1⟩ : ∃ W9 : ax_V, W9 = ax_u V 602 6 0 := ⟨_, rfl⟩
  have h := h V1 eV1
  have hg1 : ax_g V1 := eV1 ▸ ax_u_g hg (by decide)
  refine ax_pI (kI := 6) (pc' := 5) ⟨_, rfl⟩ fl_7_180 az_ok (az_e 0 rfl) rfl rfl rfl rfl eV1 rfl ?_
  refine ax_mv 1 6 [some (.ref r), some (ax_i x1), none, none] [ax_i 0] rfl ?_
  refine ax_sti (i := 0) (k := 2) (n := 1) (pc' := 7) (L' := [some (.ref r), some (ax_i x1), some (ax_i 0), none]) ⟨_, rfl⟩ rfl rfl rfl (Nat.le_of_ble_eq_true rfl) rfl rfl ?_
  exact h
