/-! RULES of the methods of the class: a method each, and each loop of it. PRINTED by wip/gen/rules.py -/
abbrev k_Planner_scheduleStrong_12 (B : Nat) (r : Nat) (d : Nat) (x1 : Int) (x2 : Int) (x3 : Int) (V : ax_V) (Φ : Int → ax_V → Prop) (Θ : ax_V → Prop) : Prop := ax_R (az_W B (az_EL B r)) ax_t d m_Planner_scheduleStrong 12 [some (.ref r), some (ax_i x1), some (ax_i x2), some (ax_i x3)] [] V (ax_Ir Φ) Θ
theorem r_Planner_scheduleStrong_12 {B : Nat} {r : Nat} {d : Nat} {V : ax_V} {Φ : Int → ax_V → Prop} {Θ : ax_V → Prop} {x1 : Int} {x2 : Int} {x3 : Int} (hg : ax_g V) (hx1 : ax_rg x1) (hx2 : ax_rg x2) (hx3 : ax_rg x3) (h : (0 ≤ x1 + 1 ∧ x1 + 1 < 9) ∧ ((V 510 (x1 + 1) ≤ x3 → (x2 = 0 ∨ x2 = 1) ∧ Φ x2 V) ∧ (x3 < V 510 (x1 + 1) → (0 ≤ x3 ∧ x3 < 350) ∧ ((V 562 x3 = 0 → (0 ≤ x3 ∧ x3 < 350) ∧ ((ax_and (V 561 x3) (ax_xor (V 602 6) (-1)) = 0 → ax_N (az_W B (az_EL B r)) d q_Planner_scheduleMoves [.ref r, ax_i x3, ax_i 1] V (fun V1 => ax_N (az_W B (az_EL B r)) d q_Planner_addStep [.ref r, ax_i 2, ax_i x3] V1 (fun V2 => (0 ≤ x3 ∧ x3 < 350) ∧ (∀ V3, V3 = ax_u V2 562 x3 1 → k_Planner_scheduleStrong_12 B r d x1 1 (x3 + 1) V3 Φ Θ)) Θ) Θ) ∧ (¬ ax_and (V 561 x3) (ax_xor (V 602 6) (-1)) = 0 → k_Planner_scheduleStrong_12 B r d x1 x2 (x3 + 1) V Φ Θ))) ∧ (¬ V 562 x3 = 0 → k_Planner_scheduleStrong_12 B r d x1 x2 (x3 + 1) V Φ Θ))))) : k_Planner_scheduleStrong_12 B r d x1 x2 x3 V Φ Θ := by
  refine ax_mv 2 14 [some (.ref r), some (ax_i x1), some (ax_i x2), some (ax_i x3)] [.ref r, ax_i x3] rfl ?_
  refine ax_gR (v := .ref B) (pc' := 17) ⟨_, rfl⟩ fl_7_9 (az_e 0 rfl) rfl rfl ?_
  refine ax_gR (v := .ref (B + 10)) (pc' := 20) ⟨_, rfl⟩ fl_7_68 (az_b 0 rfl) rfl rfl ?_
  refine ax_mv 2 22 [some (.ref r), some (ax_i x1), some (ax_i x2), some (ax_i x3)] [ax_i 1, ax_i x1, .ref (B + 10), ax_i x3] rfl ?_
  refine ax_add (pc' := 23) ⟨_, rfl⟩ rfl ?_
  obtain ⟨o1, h⟩ := h
  refine ax_ild (n := 9) (pc' := 24) ⟨_, rfl⟩ (az_b 10 rfl) (by decide) o1 rfl ?_
  refine ax_if2 (p1 := 88) (p2 := 27) ⟨_, rfl⟩ (by decide) rfl hx3 (hg _ _) (fun hc => ?_) (fun hc => ?_)
  · have h := h.1 hc
    refine ax_mv 1 89 [some (.ref r), some (ax_i x1), some (ax_i x2), some (ax_i x3)] [ax_i x2] rfl ?_
    obtain ⟨o2, h⟩ := h
    exact ax_iret ⟨_, rfl⟩ rfl (ax_nbv o2) hx2 hg h
  · have h := h.2 (Int.not_le.mp hc)
    refine ax_mv 1 28 [some (.ref r), some (ax_i x1), some (ax_i x2), some (ax_i x3)] [.ref r] rfl ?_
    refine ax_gR (v := .ref (B + 56)) (pc' := 31) ⟨_, rfl⟩ fl_7_36 (az_e 0 rfl) rfl rfl ?_
    refine ax_gR (v := .ref (B + 62)) (pc' := 34) ⟨_, rfl⟩ fl_7_195 (az_b 56 rfl) rfl rfl ?_
    refine ax_mv 1 35 [some (.ref r), some (ax_i x1), some (ax_i x2), some (ax_i x3)] [ax_i x3, .ref (B + 62)] rfl ?_
    obtain ⟨o3, h⟩ := h
    refine ax_bld (n := 350) (pc' := 36) ⟨_, rfl⟩ (az_b 62 rfl) (by decide) o3 rfl ?_
    refine ax_if (p1 := 82) (p2 := 39) ⟨_, rfl⟩ (by decide) rfl (hg _ _) (fun hc => ?_) (fun hc => ?_)
    · have h := h.2 hc
      refine ax_inc (x := x3) (pc' := 85) (L' := [some (.ref r), some (ax_i x1), some (ax_i x2), some (ax_i (x3 + 1))]) ⟨_, rfl⟩ rfl rfl rfl rfl ?_
      refine ax_mv 1 12 [some (.ref r), some (ax_i x1), some (ax_i x2), some (ax_i (x3 + 1))] [] rfl ?_
      exact h
    · have h := h.1 (Classical.not_not.mp hc)
      refine ax_mv 1 40 [some (.ref r), some (ax_i x1), some (ax_i x2), some (ax_i x3)] [.ref r] rfl ?_
      refine ax_gR (v := .ref (B + 56)) (pc' := 43) ⟨_, rfl⟩ fl_7_36 (az_e 0 rfl) rfl rfl ?_
      refine ax_gR (v := .ref (B + 61)) (pc' := 46) ⟨_, rfl⟩ fl_7_198 (az_b 56 rfl) rfl rfl ?_
      refine ax_mv 1 47 [some (.ref r), some (ax_i x1), some (ax_i x2), some (ax_i x3)] [ax_i x3, .ref (B + 61)] rfl ?_
      obtain ⟨o4, h⟩ := h
      refine ax_ild (n := 350) (pc' := 48) ⟨_, rfl⟩ (az_b 61 rfl) (by decide) o4 rfl ?_
      refine ax_mv 1 49 [some (.ref r), some (ax_i x1), some (ax_i x2), some (ax_i x3)] [.ref r, ax_i (V 561 x3)] rfl ?_
      refine ax_gI (kI := 6) (pc' := 52) ⟨_, rfl⟩ fl_7_180 (az_e 0 rfl) rfl rfl rfl ?_
      refine ax_mv 1 53 [some (.ref r), some (ax_i x1), some (ax_i x2), some (ax_i x3)] [ax_i (-1), ax_i (V 602 6), ax_i (V 561 x3)] rfl ?_
      refine ax_rxor (pc' := 54) ⟨_, rfl⟩ rfl ?_
      refine ax_rand (pc' := 55) ⟨_, rfl⟩ rfl ?_
      refine ax_if (p1 := 82) (p2 := 58) ⟨_, rfl⟩ (by decide) rfl (ax_rg_of _) (fun hc => ?_) (fun hc => ?_)
      · have h := h.2 hc
        refine ax_inc (x := x3) (pc' := 85) (L' := [some (.ref r), some (ax_i x1), some (ax_i x2), some (ax_i (x3 + 1))]) ⟨_, rfl⟩ rfl rfl rfl rfl ?_
        refine ax_mv 1 12 [some (.ref r), some (ax_i x1), some (ax_i x2), some (ax_i (x3 + 1))] [] rfl ?_
        exact h
      · have h := h.1 (Classical.not_not.mp hc)
        refine ax_mv 3 61 [some (.ref r), some (ax_i x1), some (ax_i x2), some (ax_i x3)] [ax_i 1, ax_i x3, .ref r] rfl ?_
        refine ax_callN (pc' := 64) ⟨_, rfl⟩ ml_7_201 (rest := []) rfl (fun ss hs => ⟨_, _, (az_e 0 rfl) ss hs⟩) (Nat.le_of_ble_eq_true rfl) rfl rfl h (fun V1 hg1 h => ?_)
        refine ax_mv 3 67 [some (.ref r), some (ax_i x1), some (ax_i x2), some (ax_i x3)] [ax_i x3, ax_i 2, .ref r] rfl ?_
        refine ax_callN (pc' := 70) ⟨_, rfl⟩ ml_7_205 (rest := []) rfl (fun ss hs => ⟨_, _, (az_e 0 rfl) ss hs⟩) (Nat.le_of_ble_eq_true rfl) rfl rfl h (fun V2 hg2 h => ?_)
        refine ax_mv 1 71 [some (.ref r), some (ax_i x1), some (ax_i x2), some (ax_i x3)] [.ref r] rfl ?_
        refine ax_gR (v := .ref (B + 56)) (pc' := 74) ⟨_, rfl⟩ fl_7_36 (az_e 0 rfl) rfl rfl ?_
        refine ax_gR (v := .ref (B + 62)) (pc' := 77) ⟨_, rfl⟩ fl_7_195 (az_b 56 rfl) rfl rfl ?_
        refine ax_mv 2 79 [some (.ref r), some (ax_i x1), some (ax_i x2), some (ax_i x3)] [ax_i 1, ax_i x3, .ref (B + 62)] rfl ?_
        obtain ⟨o5, h⟩ := h
        obtain ⟨V3, eV3⟩ : ∃ W9 : ax_V, W9 = ax_u V2 562 x3 1 := ⟨_, rfl⟩
        have h := h V3 eV3
        have hg3 : ax_g V3 := eV3 ▸ ax_u_g hg2 (by decide)
        refine ax_bst (n := 350) (pc' := 80) ⟨_, rfl⟩ az_ok (az_b 62 rfl) (by decide) o5 (by decide) eV3 rfl ?_
        refine ax_mv 1 81 [some (.ref r), some (ax_i x1), some (ax_i x2), some (ax_i x3)] [ax_i 1] rfl ?_
        refine ax_sti (i := 0) (k := 2) (n := 1) (pc' := 82) (L' := [some (.ref r), some (ax_i x1), some (ax_i 1), some (ax_i x3)]) ⟨_, rfl⟩ rfl rfl rfl (Nat.le_of_ble_eq_true rfl) rfl rfl ?_
        refine ax_inc (x := x3) (pc' := 85) (L' := [some (.ref r), some (ax_i x1), some (ax_i 1), some (ax_i (x3 + 1))]) ⟨_, rfl⟩ rfl rfl rfl rfl ?_
        refine ax_mv 1 12 [some (.ref r), some (ax_i x1), some (ax_i 1), some (ax_i (x3 + 1))] [] rfl ?_
        exact h
theorem r_Planner_scheduleStrong {B : Nat} {r : Nat} {d : Nat} {V : ax_V} {Φ : Int → ax_V → Prop} {Θ : ax_V → Prop} {x1 : Int} (hg : ax_g V) (hx1 : ax_rg x1) (h : (0 ≤ x1 ∧ x1 < 9) ∧ k_Planner_scheduleStrong_12 B r d x1 0 (V 510 x1) V Φ Θ) : ax_I (az_W B (az_EL B r)) (d + 1) q_Planner_scheduleStrong [.ref r, ax_i x1] V Φ Θ := by
  refine ax_T.of (M := m_Planner_scheduleStrong) rfl (Nat.le_of_ble_eq_true rfl) ?_
  refine ax_mv 0 0 [some (.ref r), some (ax_i x1), none, none] [] rfl ?_
  refine ax_mv 1 1 [some (.ref r), some (ax_i x1), none, none] [ax_i 0] rfl ?_
  refine ax_sti (i := 0) (k := 2) (n := 1) (pc' := 2) (L' := [some (.ref r), some (ax_i x1), some (ax_i 0), none]) ⟨_, rfl⟩ rfl rfl rfl (Nat.le_of_ble_eq_true rfl) rfl rfl ?_
  refine ax_mv 1 3 [some (.ref r), some (ax_i x1), some (ax_i 0), none] [.ref r] rfl ?_
  refine ax_gR (v := .ref B) (pc' := 6) ⟨_, rfl⟩ fl_7_9 (az_e 0 rfl) rfl rfl ?_
  refine ax_gR (v := .ref (B + 10)) (pc' := 9) ⟨_, rfl⟩ fl_7_68 (az_b 0 rfl) rfl rfl ?_
  refine ax_mv 1 10 [some (.ref r), some (ax_i x1), some (ax_i 0), none] [ax_i x1, .ref (B + 10)] rfl ?_
  obtain ⟨o6, h⟩ := h
  refine ax_ild (n := 9) (pc' := 11) ⟨_, rfl⟩ (az_b 10 rfl) (by decide) o6 rfl ?_
  refine ax_sti (i := 0) (k := 3) (n := 1) (pc' := 12) (L' := [some (.ref r), some (ax_i x1), some (ax_i 0), some (ax_i (V 510 x1))]) ⟨_, rfl⟩ rfl rfl rfl (Nat.le_of_ble_eq_true rfl) rfl rfl ?_
  exact h
abbrev k_Planner_scheduleMoves_10 (B : Nat) (r : Nat) (d : Nat) (x1 : Int) (x2 : Int) (x3 : Int) (y4 : Option Value) (V : ax_V) (Φ : ax_V → Prop) (Θ : ax_V → Prop) : Prop := ax_R (az_W B (az_EL B r)) ax_t d m_Planner_scheduleMoves 10 [some (.ref r), some (ax_i x1), some (ax_i x2), some (ax_i x3), y4] [] V (ax_Nr Φ) Θ
abbrev k_Planner_scheduleMoves_36 (B : Nat) (r : Nat) (d : Nat) (x1 : Int) (x2 : Int) (x3 : Int) (x4 : Int) (V : ax_V) (Φ : ax_V → Prop) (Θ : ax_V → Prop) : Prop := ax_R (az_W B (az_EL B r)) ax_t d m_Planner_scheduleMoves 36 [some (.ref r), some (ax_i x1), some (ax_i x2), some (ax_i x3), some (ax_i x4)] [] V (ax_Nr Φ) Θ
theorem r_Planner_scheduleMoves_10 {B : Nat} {r : Nat} {d : Nat} {V : ax_V} {Φ : ax_V → Prop} {Θ : ax_V → Prop} {x1 : Int} {x2 : Int} {x3 : Int} {y4 : Option Value} (hg : ax_g V) (hx1 : ax_rg x1) (hx2 : ax_rg x2) (hx3 : ax_rg x3) (hy4 : ax_y y4) (h : (0 ≤ x1 + 1 ∧ x1 + 1 < 351) ∧ ((V 559 (x1 + 1) ≤ x3 → Φ V) ∧ (x3 < V 559 (x1 + 1) → (0 ≤ x3 ∧ x3 < 350) ∧ k_Planner_scheduleMoves_36 B r d x1 x2 x3 (V 570 x3) V Φ Θ))) : k_Planner_scheduleMoves_10 B r d x1 x2 x3 y4 V Φ Θ := by
  refine ax_mv 2 12 [some (.ref r), some (ax_i x1), some (ax_i x2), some (ax_i x3), y4] [.ref r, ax_i x3] rfl ?_
  refine ax_gR (v := .ref (B + 56)) (pc' := 15) ⟨_, rfl⟩ fl_7_36 (az_e 0 rfl) rfl rfl ?_
  refine ax_gR (v := .ref (B + 59)) (pc' := 18) ⟨_, rfl⟩ fl_7_208 (az_b 56 rfl) rfl rfl ?_
  refine ax_mv 2 20 [some (.ref r), some (ax_i x1), some (ax_i x2), some (ax_i x3), y4] [ax_i 1, ax_i x1, .ref (B + 59), ax_i x3] rfl ?_
  refine ax_add (pc' := 21) ⟨_, rfl⟩ rfl ?_
  obtain ⟨o1, h⟩ := h
  refine ax_ild (n := 351) (pc' := 22) ⟨_, rfl⟩ (az_b 59 rfl) (by decide) o1 rfl ?_
  refine ax_if2 (p1 := 82) (p2 := 25) ⟨_, rfl⟩ (by decide) rfl hx3 (hg _ _) (fun hc => ?_) (fun hc => ?_)
  · have h := h.1 hc
    exact ax_nret ⟨_, rfl⟩ rfl hg h
  · have h := h.2 (Int.not_le.mp hc)
    refine ax_mv 1 26 [some (.ref r), some (ax_i x1), some (ax_i x2), some (ax_i x3), y4] [.ref r] rfl ?_
    refine ax_gR (v := .ref (B + 56)) (pc' := 29) ⟨_, rfl⟩ fl_7_36 (az_e 0 rfl) rfl rfl ?_
    refine ax_gR (v := .ref (B + 70)) (pc' := 32) ⟨_, rfl⟩ fl_7_211 (az_b 56 rfl) rfl rfl ?_
    refine ax_mv 1 33 [some (.ref r), some (ax_i x1), some (ax_i x2), some (ax_i x3), y4] [ax_i x3, .ref (B + 70)] rfl ?_
    obtain ⟨o2, h⟩ := h
    refine ax_ild (n := 350) (pc' := 34) ⟨_, rfl⟩ (az_b 70 rfl) (by decide) o2 rfl ?_
    refine ax_sti (i := 0) (k := 4) (n := 2) (pc' := 36) (L' := [some (.ref r), some (ax_i x1), some (ax_i x2), some (ax_i x3), some (ax_i (V 570 x3))]) ⟨_, rfl⟩ rfl rfl rfl (Nat.le_of_ble_eq_true rfl) rfl rfl ?_
    exact h
theorem r_Planner_scheduleMoves_36 {B : Nat} {r : Nat} {d : Nat} {V : ax_V} {Φ : ax_V → Prop} {Θ : ax_V → Prop} {x1 : Int} {x2 : Int} {x3 : Int} {x4 : Int} (hg : ax_g V) (hx1 : ax_rg x1) (hx2 : ax_rg x2) (hx3 : ax_rg x3) (hx4 : ax_rg x4) (h : (0 ≤ x3 ∧ x3 < 350) ∧ ((V 571 x3 < x4 → k_Planner_scheduleMoves_10 B r d x1 x2 (x3 + 1) (some (ax_i x4)) V Φ Θ) ∧ (x4 ≤ V 571 x3 → (0 ≤ x3 ∧ x3 < 350) ∧ ((V 568 x3 = x2 → ax_N (az_W B (az_EL B r)) d q_Planner_addStep [.ref r, ax_i 0, ax_i x4] V (fun V1 => k_Planner_scheduleMoves_36 B r d x1 x2 x3 (x4 + 1) V1 Φ Θ) Θ) ∧ (¬ V 568 x3 = x2 → k_Planner_scheduleMoves_36 B r d x1 x2 x3 (x4 + 1) V Φ Θ))))) : k_Planner_scheduleMoves_36 B r d x1 x2 x3 x4 V Φ Θ := by
  refine ax_mv 2 39 [some (.ref r), some (ax_i x1), some (ax_i x2), some (ax_i x3), some (ax_i x4)] [.ref r, ax_i x4] rfl ?_
  refine ax_gR (v := .ref (B + 56)) (pc' := 42) ⟨_, rfl⟩ fl_7_36 (az_e 0 rfl) rfl rfl ?_
  refine ax_gR (v := .ref (B + 71)) (pc' := 45) ⟨_, rfl⟩ fl_7_214 (az_b 56 rfl) rfl rfl ?_
  refine ax_mv 1 46 [some (.ref r), some (ax_i x1), some (ax_i x2), some (ax_i x3), some (ax_i x4)] [ax_i x3, .ref (B + 71), ax_i x4] rfl ?_
  obtain ⟨o3, h⟩ := h
  refine ax_ild (n := 350) (pc' := 47) ⟨_, rfl⟩ (az_b 71 rfl) (by decide) o3 rfl ?_
  refine ax_if2 (p1 := 76) (p2 := 50) ⟨_, rfl⟩ (by decide) rfl hx4 (hg _ _) (fun hc => ?_) (fun hc => ?_)
  · have h := h.1 hc
    refine ax_inc (x := x3) (pc' := 79) (L' := [some (.ref r), some (ax_i x1), some (ax_i x2), some (ax_i (x3 + 1)), some (ax_i x4)]) ⟨_, rfl⟩ rfl rfl rfl rfl ?_
    refine ax_mv 1 10 [some (.ref r), some (ax_i x1), some (ax_i x2), some (ax_i (x3 + 1)), some (ax_i x4)] [] rfl ?_
    exact h
  · have h := h.2 (Int.not_lt.mp hc)
    refine ax_mv 1 51 [some (.ref r), some (ax_i x1), some (ax_i x2), some (ax_i x3), some (ax_i x4)] [.ref r] rfl ?_
    refine ax_gR (v := .ref (B + 56)) (pc' := 54) ⟨_, rfl⟩ fl_7_36 (az_e 0 rfl) rfl rfl ?_
    refine ax_gR (v := .ref (B + 68)) (pc' := 57) ⟨_, rfl⟩ fl_7_217 (az_b 56 rfl) rfl rfl ?_
    refine ax_mv 1 58 [some (.ref r), some (ax_i x1), some (ax_i x2), some (ax_i x3), some (ax_i x4)] [ax_i x3, .ref (B + 68)] rfl ?_
    obtain ⟨o4, h⟩ := h
    refine ax_bld (n := 350) (pc' := 59) ⟨_, rfl⟩ (az_b 68 rfl) (by decide) o4 rfl ?_
    refine ax_mv 1 60 [some (.ref r), some (ax_i x1), some (ax_i x2), some (ax_i x3), some (ax_i x4)] [ax_i x2, ax_i (V 568 x3)] rfl ?_
    refine ax_if2 (p1 := 70) (p2 := 63) ⟨_, rfl⟩ (by decide) rfl (hg _ _) hx2 (fun hc => ?_) (fun hc => ?_)
    · have h := h.2 hc
      refine ax_inc (x := x4) (pc' := 73) (L' := [some (.ref r), some (ax_i x1), some (ax_i x2), some (ax_i x3), some (ax_i (x4 + 1))]) ⟨_, rfl⟩ rfl rfl rfl rfl ?_
      refine ax_mv 1 36 [some (.ref r), some (ax_i x1), some (ax_i x2), some (ax_i x3), some (ax_i (x4 + 1))] [] rfl ?_
      exact h
    · have h := h.1 (Classical.not_not.mp hc)
      refine ax_mv 3 67 [some (.ref r), some (ax_i x1), some (ax_i x2), some (ax_i x3), some (ax_i x4)] [ax_i x4, ax_i 0, .ref r] rfl ?_
      refine ax_callN (pc' := 70) ⟨_, rfl⟩ ml_7_205 (rest := []) rfl (fun ss hs => ⟨_, _, (az_e 0 rfl) ss hs⟩) (Nat.le_of_ble_eq_true rfl) rfl rfl h (fun V1 hg1 h => ?_)
      refine ax_inc (x := x4) (pc' := 73) (L' := [some (.ref r), some (ax_i x1), some (ax_i x2), some (ax_i x3), some (ax_i (x4 + 1))]) ⟨_, rfl⟩ rfl rfl rfl rfl ?_
      refine ax_mv 1 36 [some (.ref r), some (ax_i x1), some (ax_i x2), some (ax_i x3), some (ax_i (x4 + 1))] [] rfl ?_
      exact h
theorem r_Planner_scheduleMoves {B : Nat} {r : Nat} {d : Nat} {V : ax_V} {Φ : ax_V → Prop} {Θ : ax_V → Prop} {x1 : Int} {x2 : Int} (hg : ax_g V) (hx1 : ax_rg x1) (hx2 : ax_rg x2) (h : (0 ≤ x1 ∧ x1 < 351) ∧ k_Planner_scheduleMoves_10 B r d x1 x2 (V 559 x1) none V Φ Θ) : ax_N (az_W B (az_EL B r)) (d + 1) q_Planner_scheduleMoves [.ref r, ax_i x1, ax_i x2] V Φ Θ := by
  refine ax_T.of (M := m_Planner_scheduleMoves) rfl (Nat.le_of_ble_eq_true rfl) ?_
  refine ax_mv 0 0 [some (.ref r), some (ax_i x1), some (ax_i x2), none, none] [] rfl ?_
  refine ax_mv 1 1 [some (.ref r), some (ax_i x1), some (ax_i x2), none, none] [.ref r] rfl ?_
  refine ax_gR (v := .ref (B + 56)) (pc' := 4) ⟨_, rfl⟩ fl_7_36 (az_e 0 rfl) rfl rfl ?_
  refine ax_gR (v := .ref (B + 59)) (pc' := 7) ⟨_, rfl⟩ fl_7_208 (az_b 56 rfl) rfl rfl ?_
  refine ax_mv 1 8 [some (.ref r), some (ax_i x1), some (ax_i x2), none, none] [ax_i x1, .ref (B + 59)] rfl ?_
  obtain ⟨o5, h⟩ := h
  refine ax_ild (n := 351) (pc' := 9) ⟨_, rfl⟩ (az_b 59 rfl) (by decide) o5 rfl ?_
  refine ax_sti (i := 0) (k := 3) (n := 1) (pc' := 10) (L' := [some (.ref r), some (ax_i x1), some (ax_i x2), some (ax_i (V 559 x1)), none]) ⟨_, rfl⟩ rfl rfl rfl (Nat.le_of_ble_eq_true rfl) rfl rfl ?_
  exact h
theorem r_Planner_addStep {B : Nat} {r : Nat} {d : Nat} {V : ax_V} {Φ : ax_V → Prop} {Θ : ax_V → Prop} {x1 : Int} {x2 : Int} (hg : ax_g V) (hx1 : ax_rg x1) (hx2 : ax_rg x2) (h : ((2048 ≤ V 602 5 → Φ V) ∧ (V 602 5 < 2048 → (0 ≤ V 602 5 ∧ V 602 5 < 2048) ∧ (∀ V1, V1 = ax_u V 512 (V 602 5) (ax_or (ax_shl x1 10) x2) → ax_rg ((V1 602 5) + 1) ∧ (∀ V2, V2 = ax_u V1 602 5 ((V1 602 5) + 1) → Φ V2))))) : ax_N (az_W B (az_EL B r)) (d + 1) q_Planner_addStep [.ref r, ax_i x1, ax_i x2] V Φ Θ := by
  refine ax_T.of (M := m_Planner_addStep) rfl (Nat.le_of_ble_eq_true rfl) ?_
  refine ax_mv 0 0 [some (.ref r), some (ax_i x1), some (ax_i x2)] [] rfl ?_
  refine ax_mv 1 1 [some (.ref r), some (ax_i x1), some (ax_i x2)] [.ref r] rfl ?_
  refine ax_gI (kI := 5) (pc' := 4) ⟨_, rfl⟩ fl_7_49 (az_e 0 rfl) rfl rfl rfl ?_
  refine ax_sip (pc' := 7) ⟨_, rfl⟩ (by decide) rfl ?_
  refine ax_if2 (p1 := 38) (p2 := 10) ⟨_, rfl⟩ (by decide) rfl (hg _ _) (by decide) (fun hc => ?_) (fun hc => ?_)
  · have h := h.1 hc
    exact ax_nret ⟨_, rfl⟩ rfl hg h
  · have h := h.2 (Int.not_le.mp hc)
    refine ax_mv 1 11 [some (.ref r), some (ax_i x1), some (ax_i x2)] [.ref r] rfl ?_
    refine ax_gR (v := .ref B) (pc' := 14) ⟨_, rfl⟩ fl_7_9 (az_e 0 rfl) rfl rfl ?_
    refine ax_gR (v := .ref (B + 12)) (pc' := 17) ⟨_, rfl⟩ fl_7_166 (az_b 0 rfl) rfl rfl ?_
    refine ax_mv 1 18 [some (.ref r), some (ax_i x1), some (ax_i x2)] [.ref r, .ref (B + 12)] rfl ?_
    refine ax_gI (kI := 5) (pc' := 21) ⟨_, rfl⟩ fl_7_49 (az_e 0 rfl) rfl rfl rfl ?_
    refine ax_mv 1 22 [some (.ref r), some (ax_i x1), some (ax_i x2)] [ax_i x1, ax_i (V 602 5), .ref (B + 12)] rfl ?_
    refine ax_bip (pc' := 24) ⟨_, rfl⟩ (by decide) rfl ?_
    refine ax_rshl (pc' := 25) ⟨_, rfl⟩ rfl ?_
    refine ax_mv 1 26 [some (.ref r), some (ax_i x1), some (ax_i x2)] [ax_i x2, ax_i (ax_shl x1 10), ax_i (V 602 5), .ref (B + 12)] rfl ?_
    refine ax_ror (pc' := 27) ⟨_, rfl⟩ rfl ?_
    obtain ⟨o1, h⟩ := h
    obtain ⟨V1, eV1⟩ : ∃ W9 : ax_V, W9 = ax_u V 512 (V 602 5) (ax_or (ax_shl x1 10) x2) := ⟨_, rfl⟩
    have h := h V1 eV1
    have hg1 : ax_g V1 := eV1 ▸ ax_u_g hg (ax_rg_of _)
    refine ax_ist (n := 2048) (pc' := 28) ⟨_, rfl⟩ az_ok (az_b 12 rfl) (by decide) o1 eV1 rfl ?_
    refine ax_mv 2 30 [some (.ref r), some (ax_i x1), some (ax_i x2)] [.ref r, .ref r] rfl ?_
    refine ax_gI (kI := 5) (pc' := 33) ⟨_, rfl⟩ fl_7_49 (az_e 0 rfl) rfl rfl rfl ?_
    refine ax_mv 1 34 [some (.ref r), some (ax_i x1), some (ax_i x2)] [ax_i 1, ax_i (V1 602 5), .ref r] rfl ?_
    refine ax_add (pc' := 35) ⟨_, rfl⟩ rfl ?_
    obtain ⟨o2, h⟩ := h
    obtain ⟨V2, eV2⟩ : ∃ W9 : ax_V, W9 = ax_u V1 602 5 ((V1 602 5) + 1) := ⟨_, rfl⟩
    have h := h V2 eV2
    have hg2 : ax_g V2 := eV2 ▸ ax_u_g hg1 o2
    refine ax_pI (kI := 5) (pc' := 38) ⟨_, rfl⟩ fl_7_49 az_ok (az_e 0 rfl) rfl rfl rfl rfl eV2 rfl ?_
    exact ax_nret ⟨_, rfl⟩ rfl hg2 h
abbrev k_Planner_scheduleEquations_12 (B : Nat) (r : Nat) (d : Nat) (x1 : Int) (x2 : Int) (x3 : Int) (y4 : Option Value) (y5 : Option Value) (V : ax_V) (Φ : Int → ax_V → Prop) (Θ : ax_V → Prop) : Prop := ax_R (az_W B (az_EL B r)) ax_t d m_Planner_scheduleEquations 12 [some (.ref r), some (ax_i x1), some (ax_i x2), some (ax_i x3), y4, y5] [] V (ax_Ir Φ) Θ
abbrev k_Planner_scheduleEquations_70 (B : Nat) (r : Nat) (d : Nat) (x1 : Int) (x2 : Int) (x3 : Int) (y4 : Option Value) (y5 : Option Value) (s0 : Int) (V : ax_V) (Φ : Int → ax_V → Prop) (Θ : ax_V → Prop) : Prop := ax_R (az_W B (az_EL B r)) ax_t d m_Planner_scheduleEquations 70 [some (.ref r), some (ax_i x1), some (ax_i x2), some (ax_i x3), y4, y5] [ax_i s0] V (ax_Ir Φ) Θ
set_option maxRecDepth 20000 in
theorem r_Planner_scheduleEquations_12 {B : Nat} {r : Nat} {d : Nat} {V : ax_V} {Φ : Int → ax_V → Prop} {Θ : ax_V → Prop} {x1 : Int} {x2 : Int} {x3 : Int} {y4 : Option Value} {y5 : Option Value} (hg : ax_g V) (hx1 : ax_rg x1) (hx2 : ax_rg x2) (hx3 : ax_rg x3) (hy4 : ax_y y4) (hy5 : ax_y y5) (h : (0 ≤ x1 + 1 ∧ x1 + 1 < 9) ∧ ((V 509 (x1 + 1) ≤ x3 → (x2 = 0 ∨ x2 = 1) ∧ Φ x2 V) ∧ (x3 < V 509 (x1 + 1) → (0 ≤ x3 ∧ x3 < 350) ∧ ((V 551 x3 = -1 → k_Planner_scheduleEquations_70 B r d x1 x2 x3 (some (ax_i (V 551 x3))) y5 1 V Φ Θ) ∧ (¬ V 551 x3 = -1 → (0 ≤ V 551 x3 ∧ V 551 x3 < 350) ∧ (0 ≤ V 563 (V 551 x3) ∧ V 563 (V 551 x3) < 350) ∧ ((V 562 (V 563 (V 551 x3)) = 0 → k_Planner_scheduleEquations_70 B r d x1 x2 x3 (some (ax_i (V 551 x3))) y5 0 V Φ Θ) ∧ (¬ V 562 (V 563 (V 551 x3)) = 0 → k_Planner_scheduleEquations_70 B r d x1 x2 x3 (some (ax_i (V 551 x3))) y5 1 V Φ Θ))))))) : k_Planner_scheduleEquations_12 B r d x1 x2 x3 y4 y5 V Φ Θ := by
  refine ax_mv 2 14 [some (.ref r), some (ax_i x1), some (ax_i x2), some (ax_i x3), y4, y5] [.ref r, ax_i x3] rfl ?_
  refine ax_gR (v := .ref B) (pc' := 17) ⟨_, rfl⟩ fl_7_9 (az_e 0 rfl) rfl rfl ?_
  refine ax_gR (v := .ref (B + 9)) (pc' := 20) ⟨_, rfl⟩ fl_7_138 (az_b 0 rfl) rfl rfl ?_
  refine ax_mv 2 22 [some (.ref r), some (ax_i x1), some (ax_i x2), some (ax_i x3), y4, y5] [ax_i 1, ax_i x1, .ref (B + 9), ax_i x3] rfl ?_
  refine ax_add (pc' := 23) ⟨_, rfl⟩ rfl ?_
  obtain ⟨o1, h⟩ := h
  refine ax_ild (n := 9) (pc' := 24) ⟨_, rfl⟩ (az_b 9 rfl) (by decide) o1 rfl ?_
  refine ax_if2 (p1 := 121) (p2 := 27) ⟨_, rfl⟩ (by decide) rfl hx3 (hg _ _) (fun hc => ?_) (fun hc => ?_)
  · have h := h.1 hc
    refine ax_mv 1 122 [some (.ref r), some (ax_i x1), some (ax_i x2), some (ax_i x3), y4, y5] [ax_i x2] rfl ?_
    obtain ⟨o2, h⟩ := h
    exact ax_iret ⟨_, rfl⟩ rfl (ax_nbv o2) hx2 hg h
  · have h := h.2 (Int.not_le.mp hc)
    refine ax_mv 1 28 [some (.ref r), some (ax_i x1), some (ax_i x2), some (ax_i x3), y4, y5] [.ref r] rfl ?_
    refine ax_gR (v := .ref (B + 47)) (pc' := 31) ⟨_, rfl⟩ fl_7_31 (az_e 0 rfl) rfl rfl ?_
    refine ax_gR (v := .ref (B + 51)) (pc' := 34) ⟨_, rfl⟩ fl_7_220 (az_b 47 rfl) rfl rfl ?_
    refine ax_mv 1 35 [some (.ref r), some (ax_i x1), some (ax_i x2), some (ax_i x3), y4, y5] [ax_i x3, .ref (B + 51)] rfl ?_
    obtain ⟨o3, h⟩ := h
    refine ax_ild (n := 350) (pc' := 36) ⟨_, rfl⟩ (az_b 51 rfl) (by decide) o3 rfl ?_
    refine ax_sti (i := 0) (k := 4) (n := 2) (pc' := 38) (L' := [some (.ref r), some (ax_i x1), some (ax_i x2), some (ax_i x3), some (ax_i (V 551 x3)), y5]) ⟨_, rfl⟩ rfl rfl rfl (Nat.le_of_ble_eq_true rfl) rfl rfl ?_
    refine ax_mv 2 41 [some (.ref r), some (ax_i x1), some (ax_i x2), some (ax_i x3), some (ax_i (V 551 x3)), y5] [ax_i (-1), ax_i (V 551 x3)] rfl ?_
    refine ax_if2 (p1 := 65) (p2 := 44) ⟨_, rfl⟩ (by decide) rfl (hg _ _) (by decide) (fun hc => ?_) (fun hc => ?_)
    · have h := h.1 hc
      refine ax_mv 2 70 [some (.ref r), some (ax_i x1), some (ax_i x2), some (ax_i x3), some (ax_i (V 551 x3)), y5] [ax_i 1] rfl ?_
      exact h
    · have h := h.2 hc
      refine ax_mv 1 45 [some (.ref r), some (ax_i x1), some (ax_i x2), some (ax_i x3), some (ax_i (V 551 x3)), y5] [.ref r] rfl ?_
      refine ax_gR (v := .ref (B + 56)) (pc' := 48) ⟨_, rfl⟩ fl_7_36 (az_e 0 rfl) rfl rfl ?_
      refine ax_gR (v := .ref (B + 62)) (pc' := 51) ⟨_, rfl⟩ fl_7_195 (az_b 56 rfl) rfl rfl ?_
      refine ax_mv 1 52 [some (.ref r), some (ax_i x1), some (ax_i x2), some (ax_i x3), some (ax_i (V 551 x3)), y5] [.ref r, .ref (B + 62)] rfl ?_
      refine ax_gR (v := .ref (B + 56)) (pc' := 55) ⟨_, rfl⟩ fl_7_36 (az_e 0 rfl) rfl rfl ?_
      refine ax_gR (v := .ref (B + 63)) (pc' := 58) ⟨_, rfl⟩ fl_7_221 (az_b 56 rfl) rfl rfl ?_
      refine ax_mv 1 60 [some (.ref r), some (ax_i x1), some (ax_i x2), some (ax_i x3), some (ax_i (V 551 x3)), y5] [ax_i (V 551 x3), .ref (B + 63), .ref (B + 62)] rfl ?_
      obtain ⟨o4, h⟩ := h
      refine ax_ild (n := 350) (pc' := 61) ⟨_, rfl⟩ (az_b 63 rfl) (by decide) o4 rfl ?_
      obtain ⟨o5, h⟩ := h
      refine ax_bld (n := 350) (pc' := 62) ⟨_, rfl⟩ (az_b 62 rfl) (by decide) o5 rfl ?_
      refine ax_if (p1 := 69) (p2 := 65) ⟨_, rfl⟩ (by decide) rfl (hg _ _) (fun hc => ?_) (fun hc => ?_)
      · have h := h.1 hc
        refine ax_mv 1 70 [some (.ref r), some (ax_i x1), some (ax_i x2), some (ax_i x3), some (ax_i (V 551 x3)), y5] [ax_i 0] rfl ?_
        exact h
      · have h := h.2 hc
        refine ax_mv 2 70 [some (.ref r), some (ax_i x1), some (ax_i x2), some (ax_i x3), some (ax_i (V 551 x3)), y5] [ax_i 1] rfl ?_
        exact h
set_option maxRecDepth 20000 in
theorem r_Planner_scheduleEquations_70 {B : Nat} {r : Nat} {d : Nat} {V : ax_V} {Φ : Int → ax_V → Prop} {Θ : ax_V → Prop} {x1 : Int} {x2 : Int} {x3 : Int} {y4 : Option Value} {y5 : Option Value} {s0 : Int} (hg : ax_g V) (hx1 : ax_rg x1) (hx2 : ax_rg x2) (hx3 : ax_rg x3) (hy4 : ax_y y4) (hy5 : ax_y y5) (hs0 : ax_rg s0) (h : ((s0 = 0 → k_Planner_scheduleEquations_12 B r d x1 x2 (x3 + 1) y4 (some (ax_i s0)) V Φ Θ) ∧ (¬ s0 = 0 → (0 ≤ x3 ∧ x3 < 350) ∧ ((V 553 x3 = 0 → (0 ≤ x3 ∧ x3 < 350) ∧ ((ax_and (V 552 x3) (ax_xor (V 602 6) (-1)) = 0 → ax_N (az_W B (az_EL B r)) d q_Planner_scheduleEquation [.ref r, ax_i x3] V (fun V1 => k_Planner_scheduleEquations_12 B r d x1 1 (x3 + 1) y4 (some (ax_i s0)) V1 Φ Θ) Θ) ∧ (¬ ax_and (V 552 x3) (ax_xor (V 602 6) (-1)) = 0 → k_Planner_scheduleEquations_12 B r d x1 x2 (x3 + 1) y4 (some (ax_i s0)) V Φ Θ))) ∧ (¬ V 553 x3 = 0 → k_Planner_scheduleEquations_12 B r d x1 x2 (x3 + 1) y4 (some (ax_i s0)) V Φ Θ))))) : k_Planner_scheduleEquations_70 B r d x1 x2 x3 y4 y5 s0 V Φ Θ := by
  refine ax_sti (i := 0) (k := 5) (n := 2) (pc' := 72) (L' := [some (.ref r), some (ax_i x1), some (ax_i x2), some (ax_i x3), y4, some (ax_i s0)]) ⟨_, rfl⟩ rfl rfl (ax_kill_y (k := 4) rfl hy4) (Nat.le_of_ble_eq_true rfl) rfl rfl ?_
  refine ax_mv 1 74 [some (.ref r), some (ax_i x1), some (ax_i x2), some (ax_i x3), y4, some (ax_i s0)] [ax_i s0] rfl ?_
  refine ax_if (p1 := 115) (p2 := 77) ⟨_, rfl⟩ (by decide) rfl hs0 (fun hc => ?_) (fun hc => ?_)
  · have h := h.1 hc
    refine ax_inc (x := x3) (pc' := 118) (L' := [some (.ref r), some (ax_i x1), some (ax_i x2), some (ax_i (x3 + 1)), y4, some (ax_i s0)]) ⟨_, rfl⟩ rfl rfl rfl rfl ?_
    refine ax_mv 1 12 [some (.ref r), some (ax_i x1), some (ax_i x2), some (ax_i (x3 + 1)), y4, some (ax_i s0)] [] rfl ?_
    exact h
  · have h := h.2 hc
    refine ax_mv 1 78 [some (.ref r), some (ax_i x1), some (ax_i x2), some (ax_i x3), y4, some (ax_i s0)] [.ref r] rfl ?_
    refine ax_gR (v := .ref (B + 47)) (pc' := 81) ⟨_, rfl⟩ fl_7_31 (az_e 0 rfl) rfl rfl ?_
    refine ax_gR (v := .ref (B + 53)) (pc' := 84) ⟨_, rfl⟩ fl_7_224 (az_b 47 rfl) rfl rfl ?_
    refine ax_mv 1 85 [some (.ref r), some (ax_i x1), some (ax_i x2), some (ax_i x3), y4, some (ax_i s0)] [ax_i x3, .ref (B + 53)] rfl ?_
    obtain ⟨o6, h⟩ := h
    refine ax_bld (n := 350) (pc' := 86) ⟨_, rfl⟩ (az_b 53 rfl) (by decide) o6 rfl ?_
    refine ax_if (p1 := 115) (p2 := 89) ⟨_, rfl⟩ (by decide) rfl (hg _ _) (fun hc => ?_) (fun hc => ?_)
    · have h := h.2 hc
      refine ax_inc (x := x3) (pc' := 118) (L' := [some (.ref r), some (ax_i x1), some (ax_i x2), some (ax_i (x3 + 1)), y4, some (ax_i s0)]) ⟨_, rfl⟩ rfl rfl rfl rfl ?_
      refine ax_mv 1 12 [some (.ref r), some (ax_i x1), some (ax_i x2), some (ax_i (x3 + 1)), y4, some (ax_i s0)] [] rfl ?_
      exact h
    · have h := h.1 (Classical.not_not.mp hc)
      refine ax_mv 1 90 [some (.ref r), some (ax_i x1), some (ax_i x2), some (ax_i x3), y4, some (ax_i s0)] [.ref r] rfl ?_
      refine ax_gR (v := .ref (B + 47)) (pc' := 93) ⟨_, rfl⟩ fl_7_31 (az_e 0 rfl) rfl rfl ?_
      refine ax_gR (v := .ref (B + 52)) (pc' := 96) ⟨_, rfl⟩ fl_7_225 (az_b 47 rfl) rfl rfl ?_
      refine ax_mv 1 97 [some (.ref r), some (ax_i x1), some (ax_i x2), some (ax_i x3), y4, some (ax_i s0)] [ax_i x3, .ref (B + 52)] rfl ?_
      obtain ⟨o7, h⟩ := h
      refine ax_ild (n := 350) (pc' := 98) ⟨_, rfl⟩ (az_b 52 rfl) (by decide) o7 rfl ?_
      refine ax_mv 1 99 [some (.ref r), some (ax_i x1), some (ax_i x2), some (ax_i x3), y4, some (ax_i s0)] [.ref r, ax_i (V 552 x3)] rfl ?_
      refine ax_gI (kI := 6) (pc' := 102) ⟨_, rfl⟩ fl_7_180 (az_e 0 rfl) rfl rfl rfl ?_
      refine ax_mv 1 103 [some (.ref r), some (ax_i x1), some (ax_i x2), some (ax_i x3), y4, some (ax_i s0)] [ax_i (-1), ax_i (V 602 6), ax_i (V 552 x3)] rfl ?_
      refine ax_rxor (pc' := 104) ⟨_, rfl⟩ rfl ?_
      refine ax_rand (pc' := 105) ⟨_, rfl⟩ rfl ?_
      refine ax_if (p1 := 115) (p2 := 108) ⟨_, rfl⟩ (by decide) rfl (ax_rg_of _) (fun hc => ?_) (fun hc => ?_)
      · have h := h.2 hc
        refine ax_inc (x := x3) (pc' := 118) (L' := [some (.ref r), some (ax_i x1), some (ax_i x2), some (ax_i (x3 + 1)), y4, some (ax_i s0)]) ⟨_, rfl⟩ rfl rfl rfl rfl ?_
        refine ax_mv 1 12 [some (.ref r), some (ax_i x1), some (ax_i x2), some (ax_i (x3 + 1)), y4, some (ax_i s0)] [] rfl ?_
        exact h
      · have h := h.1 (Classical.not_not.mp hc)
        refine ax_mv 2 110 [some (.ref r), some (ax_i x1), some (ax_i x2), some (ax_i x3), y4, some (ax_i s0)] [ax_i x3, .ref r] rfl ?_
        refine ax_callN (pc' := 113) ⟨_, rfl⟩ ml_7_226 (rest := []) rfl (fun ss hs => ⟨_, _, (az_e 0 rfl) ss hs⟩) (Nat.le_of_ble_eq_true rfl) rfl rfl h (fun V1 hg1 h => ?_)
        refine ax_mv 1 114 [some (.ref r), some (ax_i x1), some (ax_i x2), some (ax_i x3), y4, some (ax_i s0)] [ax_i 1] rfl ?_
        refine ax_sti (i := 0) (k := 2) (n := 1) (pc' := 115) (L' := [some (.ref r), some (ax_i x1), some (ax_i 1), some (ax_i x3), y4, some (ax_i s0)]) ⟨_, rfl⟩ rfl rfl rfl (Nat.le_of_ble_eq_true rfl) rfl rfl ?_
        refine ax_inc (x := x3) (pc' := 118) (L' := [some (.ref r), some (ax_i x1), some (ax_i 1), some (ax_i (x3 + 1)), y4, some (ax_i s0)]) ⟨_, rfl⟩ rfl rfl rfl rfl ?_
        refine ax_mv 1 12 [some (.ref r), some (ax_i x1), some (ax_i 1), some (ax_i (x3 + 1)), y4, some (ax_i s0)] [] rfl ?_
        exact h
set_option maxRecDepth 20000 in
theorem r_Planner_scheduleEquations {B : Nat} {r : Nat} {d : Nat} {V : ax_V} {Φ : Int → ax_V → Prop} {Θ : ax_V → Prop} {x1 : Int} (hg : ax_g V) (hx1 : ax_rg x1) (h : (0 ≤ x1 ∧ x1 < 9) ∧ k_Planner_scheduleEquations_12 B r d x1 0 (V 509 x1) none none V Φ Θ) : ax_I (az_W B (az_EL B r)) (d + 1) q_Planner_scheduleEquations [.ref r, ax_i x1] V Φ Θ := by
  refine ax_T.of (M := m_Planner_scheduleEquations) rfl (Nat.le_of_ble_eq_true rfl) ?_
  refine ax_mv 0 0 [some (.ref r), some (ax_i x1), none, none, none, none] [] rfl ?_
  refine ax_mv 1 1 [some (.ref r), some (ax_i x1), none, none, none, none] [ax_i 0] rfl ?_
  refine ax_sti (i := 0) (k := 2) (n := 1) (pc' := 2) (L' := [some (.ref r), some (ax_i x1), some (ax_i 0), none, none, none]) ⟨_, rfl⟩ rfl rfl rfl (Nat.le_of_ble_eq_true rfl) rfl rfl ?_
  refine ax_mv 1 3 [some (.ref r), some (ax_i x1), some (ax_i 0), none, none, none] [.ref r] rfl ?_
  refine ax_gR (v := .ref B) (pc' := 6) ⟨_, rfl⟩ fl_7_9 (az_e 0 rfl) rfl rfl ?_
  refine ax_gR (v := .ref (B + 9)) (pc' := 9) ⟨_, rfl⟩ fl_7_138 (az_b 0 rfl) rfl rfl ?_
  refine ax_mv 1 10 [some (.ref r), some (ax_i x1), some (ax_i 0), none, none, none] [ax_i x1, .ref (B + 9)] rfl ?_
  obtain ⟨o8, h⟩ := h
  refine ax_ild (n := 9) (pc' := 11) ⟨_, rfl⟩ (az_b 9 rfl) (by decide) o8 rfl ?_
  refine ax_sti (i := 0) (k := 3) (n := 1) (pc' := 12) (L' := [some (.ref r), some (ax_i x1), some (ax_i 0), some (ax_i (V 509 x1)), none, none]) ⟨_, rfl⟩ rfl rfl rfl (Nat.le_of_ble_eq_true rfl) rfl rfl ?_
  exact h
abbrev k_Planner_scheduleEquation_10 (B : Nat) (r : Nat) (d : Nat) (x1 : Int) (x2 : Int) (y3 : Option Value) (V : ax_V) (Φ : ax_V → Prop) (Θ : ax_V → Prop) : Prop := ax_R (az_W B (az_EL B r)) ax_t d m_Planner_scheduleEquation 10 [some (.ref r), some (ax_i x1), some (ax_i x2), y3] [] V (ax_Nr Φ) Θ
abbrev k_Planner_scheduleEquation_73 (B : Nat) (r : Nat) (d : Nat) (x1 : Int) (x2 : Int) (y3 : Option Value) (V : ax_V) (Φ : ax_V → Prop) (Θ : ax_V → Prop) : Prop := ax_R (az_W B (az_EL B r)) ax_t d m_Planner_scheduleEquation 73 [some (.ref r), some (ax_i x1), some (ax_i x2), y3] [] V (ax_Nr Φ) Θ
set_option maxRecDepth 20000 in
theorem r_Planner_scheduleEquation_10 {B : Nat} {r : Nat} {d : Nat} {V : ax_V} {Φ : ax_V → Prop} {Θ : ax_V → Prop} {x1 : Int} {x2 : Int} {y3 : Option Value} (hg : ax_g V) (hx1 : ax_rg x1) (hx2 : ax_rg x2) (hy3 : ax_y y3) (h : (0 ≤ x1 ∧ x1 < 350) ∧ ((V 550 x1 < x2 → ax_N (az_W B (az_EL B r)) d q_Planner_addStep [.ref r, ax_i 1, ax_i x1] V (fun V1 => (0 ≤ x1 ∧ x1 < 350) ∧ (∀ V2, V2 = ax_u V1 553 x1 1 → (0 ≤ x1 ∧ x1 < 351) ∧ k_Planner_scheduleEquation_73 B r d x1 (V2 548 x1) y3 V2 Φ Θ)) Θ) ∧ (x2 ≤ V 550 x1 → (0 ≤ x2 ∧ x2 < 700) ∧ ((V 526 x2 = 0 → ax_N (az_W B (az_EL B r)) d q_Planner_addStep [.ref r, ax_i 0, ax_i x2] V (fun V3 => k_Planner_scheduleEquation_10 B r d x1 (x2 + 1) y3 V3 Φ Θ) Θ) ∧ (¬ V 526 x2 = 0 → k_Planner_scheduleEquation_10 B r d x1 (x2 + 1) y3 V Φ Θ))))) : k_Planner_scheduleEquation_10 B r d x1 x2 y3 V Φ Θ := by
  refine ax_mv 2 12 [some (.ref r), some (ax_i x1), some (ax_i x2), y3] [.ref r, ax_i x2] rfl ?_
  refine ax_gR (v := .ref (B + 47)) (pc' := 15) ⟨_, rfl⟩ fl_7_31 (az_e 0 rfl) rfl rfl ?_
  refine ax_gR (v := .ref (B + 50)) (pc' := 18) ⟨_, rfl⟩ fl_7_141 (az_b 47 rfl) rfl rfl ?_
  refine ax_mv 1 19 [some (.ref r), some (ax_i x1), some (ax_i x2), y3] [ax_i x1, .ref (B + 50), ax_i x2] rfl ?_
  obtain ⟨o1, h⟩ := h
  refine ax_ild (n := 350) (pc' := 20) ⟨_, rfl⟩ (az_b 50 rfl) (by decide) o1 rfl ?_
  refine ax_if2 (p1 := 47) (p2 := 23) ⟨_, rfl⟩ (by decide) rfl hx2 (hg _ _) (fun hc => ?_) (fun hc => ?_)
  · have h := h.1 hc
    refine ax_mv 3 50 [some (.ref r), some (ax_i x1), some (ax_i x2), y3] [ax_i x1, ax_i 1, .ref r] rfl ?_
    refine ax_callN (pc' := 53) ⟨_, rfl⟩ ml_7_205 (rest := []) rfl (fun ss hs => ⟨_, _, (az_e 0 rfl) ss hs⟩) (Nat.le_of_ble_eq_true rfl) rfl rfl h (fun V1 hg1 h => ?_)
    refine ax_mv 1 54 [some (.ref r), some (ax_i x1), some (ax_i x2), y3] [.ref r] rfl ?_
    refine ax_gR (v := .ref (B + 47)) (pc' := 57) ⟨_, rfl⟩ fl_7_31 (az_e 0 rfl) rfl rfl ?_
    refine ax_gR (v := .ref (B + 53)) (pc' := 60) ⟨_, rfl⟩ fl_7_224 (az_b 47 rfl) rfl rfl ?_
    refine ax_mv 2 62 [some (.ref r), some (ax_i x1), some (ax_i x2), y3] [ax_i 1, ax_i x1, .ref (B + 53)] rfl ?_
    obtain ⟨o2, h⟩ := h
    obtain ⟨V2, eV2⟩ : ∃ W9 : ax_V, W9 = ax_u V1 553 x1 1 := ⟨_, rfl⟩
    have h := h V2 eV2
    have hg2 : ax_g V2 := eV2 ▸ ax_u_g hg1 (by decide)
    refine ax_bst (n := 350) (pc' := 63) ⟨_, rfl⟩ az_ok (az_b 53 rfl) (by decide) o2 (by decide) eV2 rfl ?_
    refine ax_mv 1 64 [some (.ref r), some (ax_i x1), some (ax_i x2), y3] [.ref r] rfl ?_
    refine ax_gR (v := .ref (B + 47)) (pc' := 67) ⟨_, rfl⟩ fl_7_31 (az_e 0 rfl) rfl rfl ?_
    refine ax_gR (v := .ref (B + 48)) (pc' := 70) ⟨_, rfl⟩ fl_7_152 (az_b 47 rfl) rfl rfl ?_
    refine ax_mv 1 71 [some (.ref r), some (ax_i x1), some (ax_i x2), y3] [ax_i x1, .ref (B + 48)] rfl ?_
    obtain ⟨o3, h⟩ := h
    refine ax_ild (n := 351) (pc' := 72) ⟨_, rfl⟩ (az_b 48 rfl) (by decide) o3 rfl ?_
    refine ax_sti (i := 0) (k := 2) (n := 1) (pc' := 73) (L' := [some (.ref r), some (ax_i x1), some (ax_i (V2 548 x1)), y3]) ⟨_, rfl⟩ rfl rfl rfl (Nat.le_of_ble_eq_true rfl) rfl rfl ?_
    exact h
  · have h := h.2 (Int.not_lt.mp hc)
    refine ax_mv 1 24 [some (.ref r), some (ax_i x1), some (ax_i x2), y3] [.ref r] rfl ?_
    refine ax_gR (v := .ref (B + 16)) (pc' := 27) ⟨_, rfl⟩ fl_7_21 (az_e 0 rfl) rfl rfl ?_
    refine ax_gR (v := .ref (B + 26)) (pc' := 30) ⟨_, rfl⟩ fl_7_230 (az_b 16 rfl) rfl rfl ?_
    refine ax_mv 1 31 [some (.ref r), some (ax_i x1), some (ax_i x2), y3] [ax_i x2, .ref (B + 26)] rfl ?_
    obtain ⟨o4, h⟩ := h
    refine ax_bld (n := 700) (pc' := 32) ⟨_, rfl⟩ (az_b 26 rfl) (by decide) o4 rfl ?_
    refine ax_if (p1 := 41) (p2 := 35) ⟨_, rfl⟩ (by decide) rfl (hg _ _) (fun hc => ?_) (fun hc => ?_)
    · have h := h.2 hc
      refine ax_inc (x := x2) (pc' := 44) (L' := [some (.ref r), some (ax_i x1), some (ax_i (x2 + 1)), y3]) ⟨_, rfl⟩ rfl rfl rfl rfl ?_
      refine ax_mv 1 10 [some (.ref r), some (ax_i x1), some (ax_i (x2 + 1)), y3] [] rfl ?_
      exact h
    · have h := h.1 (Classical.not_not.mp hc)
      refine ax_mv 3 38 [some (.ref r), some (ax_i x1), some (ax_i x2), y3] [ax_i x2, ax_i 0, .ref r] rfl ?_
      refine ax_callN (pc' := 41) ⟨_, rfl⟩ ml_7_205 (rest := []) rfl (fun ss hs => ⟨_, _, (az_e 0 rfl) ss hs⟩) (Nat.le_of_ble_eq_true rfl) rfl rfl h (fun V3 hg3 h => ?_)
      refine ax_inc (x := x2) (pc' := 44) (L' := [some (.ref r), some (ax_i x1), some (ax_i (x2 + 1)), y3]) ⟨_, rfl⟩ rfl rfl rfl rfl ?_
      refine ax_mv 1 10 [some (.ref r), some (ax_i x1), some (ax_i (x2 + 1)), y3] [] rfl ?_
      exact h
set_option maxRecDepth 20000 in
theorem r_Planner_scheduleEquation_73 {B : Nat} {r : Nat} {d : Nat} {V : ax_V} {Φ : ax_V → Prop} {Θ : ax_V → Prop} {x1 : Int} {x2 : Int} {y3 : Option Value} (hg : ax_g V) (hx1 : ax_rg x1) (hx2 : ax_rg x2) (hy3 : ax_y y3) (h : (0 ≤ x1 + 1 ∧ x1 + 1 < 351) ∧ ((V 548 (x1 + 1) ≤ x2 → Φ V) ∧ (x2 < V 548 (x1 + 1) → (0 ≤ x2 ∧ x2 < 350) ∧ (0 ≤ V 554 x2 ∧ V 554 x2 < 208) ∧ (0 ≤ V 554 x2 ∧ V 554 x2 < 208) ∧ ax_rg ((V 546 (V 554 x2)) - 1) ∧ (∀ V1, V1 = ax_u V 546 (V 554 x2) ((V 546 (V 554 x2)) - 1) → (0 ≤ V 554 x2 ∧ V 554 x2 < 208) ∧ ((V1 546 (V 554 x2) = 0 → ax_I (az_W B (az_EL B r)) d q_Letters_bit [ax_i (V 554 x2)] V1 (fun r2 V2 => (∀ V3, V3 = ax_u V2 602 6 (ax_or (V1 602 6) r2) → k_Planner_scheduleEquation_73 B r d x1 (x2 + 1) (some (ax_i (V 554 x2))) V3 Φ Θ)) (fun _ => False)) ∧ (¬ V1 546 (V 554 x2) = 0 → k_Planner_scheduleEquation_73 B r d x1 (x2 + 1) (some (ax_i (V 554 x2))) V1 Φ Θ)))))) : k_Planner_scheduleEquation_73 B r d x1 x2 y3 V Φ Θ := by
  refine ax_mv 2 75 [some (.ref r), some (ax_i x1), some (ax_i x2), y3] [.ref r, ax_i x2] rfl ?_
  refine ax_gR (v := .ref (B + 47)) (pc' := 78) ⟨_, rfl⟩ fl_7_31 (az_e 0 rfl) rfl rfl ?_
  refine ax_gR (v := .ref (B + 48)) (pc' := 81) ⟨_, rfl⟩ fl_7_152 (az_b 47 rfl) rfl rfl ?_
  refine ax_mv 2 83 [some (.ref r), some (ax_i x1), some (ax_i x2), y3] [ax_i 1, ax_i x1, .ref (B + 48), ax_i x2] rfl ?_
  refine ax_add (pc' := 84) ⟨_, rfl⟩ rfl ?_
  obtain ⟨o5, h⟩ := h
  refine ax_ild (n := 351) (pc' := 85) ⟨_, rfl⟩ (az_b 48 rfl) (by decide) o5 rfl ?_
  refine ax_if2 (p1 := 142) (p2 := 88) ⟨_, rfl⟩ (by decide) rfl hx2 (hg _ _) (fun hc => ?_) (fun hc => ?_)
  · have h := h.1 hc
    exact ax_nret ⟨_, rfl⟩ rfl hg h
  · have h := h.2 (Int.not_le.mp hc)
    refine ax_mv 1 89 [some (.ref r), some (ax_i x1), some (ax_i x2), y3] [.ref r] rfl ?_
    refine ax_gR (v := .ref (B + 47)) (pc' := 92) ⟨_, rfl⟩ fl_7_31 (az_e 0 rfl) rfl rfl ?_
    refine ax_gR (v := .ref (B + 54)) (pc' := 95) ⟨_, rfl⟩ fl_7_149 (az_b 47 rfl) rfl rfl ?_
    refine ax_mv 1 96 [some (.ref r), some (ax_i x1), some (ax_i x2), y3] [ax_i x2, .ref (B + 54)] rfl ?_
    obtain ⟨o6, h⟩ := h
    refine ax_ild (n := 350) (pc' := 97) ⟨_, rfl⟩ (az_b 54 rfl) (by decide) o6 rfl ?_
    refine ax_sti (i := 0) (k := 3) (n := 1) (pc' := 98) (L' := [some (.ref r), some (ax_i x1), some (ax_i x2), some (ax_i (V 554 x2))]) ⟨_, rfl⟩ rfl rfl rfl (Nat.le_of_ble_eq_true rfl) rfl rfl ?_
    refine ax_mv 1 99 [some (.ref r), some (ax_i x1), some (ax_i x2), some (ax_i (V 554 x2))] [.ref r] rfl ?_
    refine ax_gR (v := .ref (B + 32)) (pc' := 102) ⟨_, rfl⟩ fl_7_26 (az_e 0 rfl) rfl rfl ?_
    refine ax_gR (v := .ref (B + 46)) (pc' := 105) ⟨_, rfl⟩ fl_7_192 (az_b 32 rfl) rfl rfl ?_
    refine ax_mv 2 107 [some (.ref r), some (ax_i x1), some (ax_i x2), some (ax_i (V 554 x2))] [ax_i (V 554 x2), .ref (B + 46), ax_i (V 554 x2), .ref (B + 46)] rfl ?_
    obtain ⟨o7, h⟩ := h
    refine ax_ild (n := 208) (pc' := 108) ⟨_, rfl⟩ (az_b 46 rfl) (by decide) o7 rfl ?_
    refine ax_mv 1 109 [some (.ref r), some (ax_i x1), some (ax_i x2), some (ax_i (V 554 x2))] [ax_i 1, ax_i (V 546 (V 554 x2)), ax_i (V 554 x2), .ref (B + 46)] rfl ?_
    refine ax_sub (pc' := 110) ⟨_, rfl⟩ rfl ?_
    obtain ⟨o8, o9, h⟩ := h
    obtain ⟨V1, eV1⟩ : ∃ W9 : ax_V, W9 = ax_u V 546 (V 554 x2) ((V 546 (V 554 x2)) - 1) := ⟨_, rfl⟩
    have h := h V1 eV1
    have hg1 : ax_g V1 := eV1 ▸ ax_u_g hg o9
    refine ax_ist (n := 208) (pc' := 111) ⟨_, rfl⟩ az_ok (az_b 46 rfl) (by decide) o8 eV1 rfl ?_
    refine ax_mv 1 112 [some (.ref r), some (ax_i x1), some (ax_i x2), some (ax_i (V 554 x2))] [.ref r] rfl ?_
    refine ax_gR (v := .ref (B + 32)) (pc' := 115) ⟨_, rfl⟩ fl_7_26 (az_e 0 rfl) rfl rfl ?_
    refine ax_gR (v := .ref (B + 46)) (pc' := 118) ⟨_, rfl⟩ fl_7_192 (az_b 32 rfl) rfl rfl ?_
    refine ax_mv 1 119 [some (.ref r), some (ax_i x1), some (ax_i x2), some (ax_i (V 554 x2))] [ax_i (V 554 x2), .ref (B + 46)] rfl ?_
    obtain ⟨o10, h⟩ := h
    refine ax_ild (n := 208) (pc' := 120) ⟨_, rfl⟩ (az_b 46 rfl) (by decide) o10 rfl ?_
    refine ax_if (p1 := 136) (p2 := 123) ⟨_, rfl⟩ (by decide) rfl (hg1 _ _) (fun hc => ?_) (fun hc => ?_)
    · have h := h.2 hc
      refine ax_inc (x := x2) (pc' := 139) (L' := [some (.ref r), some (ax_i x1), some (ax_i (x2 + 1)), some (ax_i (V 554 x2))]) ⟨_, rfl⟩ rfl rfl rfl rfl ?_
      refine ax_mv 1 73 [some (.ref r), some (ax_i x1), some (ax_i (x2 + 1)), some (ax_i (V 554 x2))] [] rfl ?_
      exact h
    · have h := h.1 (Classical.not_not.mp hc)
      refine ax_mv 2 125 [some (.ref r), some (ax_i x1), some (ax_i x2), some (ax_i (V 554 x2))] [.ref r, .ref r] rfl ?_
      refine ax_gI (kI := 6) (pc' := 128) ⟨_, rfl⟩ fl_7_180 (az_e 0 rfl) rfl rfl rfl ?_
      refine ax_mv 1 129 [some (.ref r), some (ax_i x1), some (ax_i x2), some (ax_i (V 554 x2))] [ax_i (V 554 x2), ax_i (V1 602 6), .ref r] rfl ?_
      refine ax_callS (pc' := 132) ⟨_, rfl⟩ ml_7_189 (Nat.le_of_ble_eq_true rfl) (Nat.le_of_ble_eq_true rfl) rfl h (fun r2 V2 hg2 hr2 h => ?_)
      refine ax_mv 0 132 [some (.ref r), some (ax_i x1), some (ax_i x2), some (ax_i (V 554 x2))] [ax_i r2, ax_i (V1 602 6), .ref r] rfl ?_
      refine ax_ror (pc' := 133) ⟨_, rfl⟩ rfl ?_
      obtain ⟨V3, eV3⟩ : ∃ W9 : ax_V, W9 = ax_u V2 602 6 (ax_or (V1 602 6) r2) := ⟨_, rfl⟩
      have h := h V3 eV3
      have hg3 : ax_g V3 := eV3 ▸ ax_u_g hg2 (ax_rg_of _)
      refine ax_pI (kI := 6) (pc' := 136) ⟨_, rfl⟩ fl_7_180 az_ok (az_e 0 rfl) rfl rfl rfl rfl eV3 rfl ?_
      refine ax_inc (x := x2) (pc' := 139) (L' := [some (.ref r), some (ax_i x1), some (ax_i (x2 + 1)), some (ax_i (V 554 x2))]) ⟨_, rfl⟩ rfl rfl rfl rfl ?_
      refine ax_mv 1 73 [some (.ref r), some (ax_i x1), some (ax_i (x2 + 1)), some (ax_i (V 554 x2))] [] rfl ?_
      exact h
set_option maxRecDepth 20000 in
theorem r_Planner_scheduleEquation {B : Nat} {r : Nat} {d : Nat} {V : ax_V} {Φ : ax_V → Prop} {Θ : ax_V → Prop} {x1 : Int} (hg : ax_g V) (hx1 : ax_rg x1) (h : (0 ≤ x1 ∧ x1 < 350) ∧ k_Planner_scheduleEquation_10 B r d x1 (V 549 x1) none V Φ Θ) : ax_N (az_W B (az_EL B r)) (d + 1) q_Planner_scheduleEquation [.ref r, ax_i x1] V Φ Θ := by
  refine ax_T.of (M := m_Planner_scheduleEquation) rfl (Nat.le_of_ble_eq_true rfl) ?_
  refine ax_mv 0 0 [some (.ref r), some (ax_i x1), none, none] [] rfl ?_
  refine ax_mv 1 1 [some (.ref r), some (ax_i x1), none, none] [.ref r] rfl ?_
  refine ax_gR (v := .ref (B + 47)) (pc' := 4) ⟨_, rfl⟩ fl_7_31 (az_e 0 rfl) rfl rfl ?_
  refine ax_gR (v := .ref (B + 49)) (pc' := 7) ⟨_, rfl⟩ fl_7_229 (az_b 47 rfl) rfl rfl ?_
  refine ax_mv 1 8 [some (.ref r), some (ax_i x1), none, none] [ax_i x1, .ref (B + 49)] rfl ?_
  obtain ⟨o11, h⟩ := h
  refine ax_ild (n := 350) (pc' := 9) ⟨_, rfl⟩ (az_b 49 rfl) (by decide) o11 rfl ?_
  refine ax_sti (i := 0) (k := 2) (n := 1) (pc' := 10) (L' := [some (.ref r), some (ax_i x1), some (ax_i (V 549 x1)), none]) ⟨_, rfl⟩ rfl rfl rfl (Nat.le_of_ble_eq_true rfl) rfl rfl ?_
  exact h
abbrev k_Planner_scheduleEnd_10 (B : Nat) (r : Nat) (d : Nat) (x1 : Int) (x2 : Int) (V : ax_V) (Φ : ax_V → Prop) (Θ : ax_V → Prop) : Prop := ax_R (az_W B (az_EL B r)) ax_t d m_Planner_scheduleEnd 10 [some (.ref r), some (ax_i x1), some (ax_i x2)] [] V (ax_Nr Φ) Θ
abbrev k_Planner_scheduleEnd_59 (B : Nat) (r : Nat) (d : Nat) (x1 : Int) (x2 : Int) (V : ax_V) (Φ : ax_V → Prop) (Θ : ax_V → Prop) : Prop := ax_R (az_W B (az_EL B r)) ax_t d m_Planner_scheduleEnd 59 [some (.ref r), some (ax_i x1), some (ax_i x2)] [] V (ax_Nr Φ) Θ
abbrev k_Planner_scheduleEnd_96 (B : Nat) (r : Nat) (d : Nat) (x1 : Int) (x2 : Int) (V : ax_V) (Φ : ax_V → Prop) (Θ : ax_V → Prop) : Prop := ax_R (az_W B (az_EL B r)) ax_t d m_Planner_scheduleEnd 96 [some (.ref r), some (ax_i x1), some (ax_i x2)] [] V (ax_Nr Φ) Θ
abbrev k_Planner_scheduleEnd_142 (B : Nat) (r : Nat) (d : Nat) (x1 : Int) (x2 : Int) (V : ax_V) (Φ : ax_V → Prop) (Θ : ax_V → Prop) : Prop := ax_R (az_W B (az_EL B r)) ax_t d m_Planner_scheduleEnd 142 [some (.ref r), some (ax_i x1), some (ax_i x2)] [] V (ax_Nr Φ) Θ
abbrev k_Planner_scheduleEnd_186 (B : Nat) (r : Nat) (d : Nat) (x1 : Int) (x2 : Int) (V : ax_V) (Φ : ax_V → Prop) (Θ : ax_V → Prop) : Prop := ax_R (az_W B (az_EL B r)) ax_t d m_Planner_scheduleEnd 186 [some (.ref r), some (ax_i x1), some (ax_i x2)] [] V (ax_Nr Φ) Θ
set_option maxRecDepth 20000 in
theorem r_Planner_scheduleEnd_10 {B : Nat} {r : Nat} {d : Nat} {V : ax_V} {Φ : ax_V → Prop} {Θ : ax_V → Prop} {x1 : Int} {x2 : Int} (hg : ax_g V) (hx1 : ax_rg x1) (hx2 : ax_rg x2) (h : (0 ≤ x1 + 1 ∧ x1 + 1 < 9) ∧ ((V 508 (x1 + 1) ≤ x2 → (0 ≤ x1 ∧ x1 < 9) ∧ k_Planner_scheduleEnd_59 B r d x1 (V 510 x1) V Φ Θ) ∧ (x2 < V 508 (x1 + 1) → (0 ≤ x2 ∧ x2 < 700) ∧ ((V 526 x2 = 0 → k_Planner_scheduleEnd_10 B r d x1 (x2 + 1) V Φ Θ) ∧ (¬ V 526 x2 = 0 → ax_N (az_W B (az_EL B r)) d q_Planner_addStep [.ref r, ax_i 0, ax_i x2] V (fun V1 => k_Planner_scheduleEnd_10 B r d x1 (x2 + 1) V1 Φ Θ) Θ))))) : k_Planner_scheduleEnd_10 B r d x1 x2 V Φ Θ := by
  refine ax_mv 2 12 [some (.ref r), some (ax_i x1), some (ax_i x2)] [.ref r, ax_i x2] rfl ?_
  refine ax_gR (v := .ref B) (pc' := 15) ⟨_, rfl⟩ fl_7_9 (az_e 0 rfl) rfl rfl ?_
  refine ax_gR (v := .ref (B + 8)) (pc' := 18) ⟨_, rfl⟩ fl_7_71 (az_b 0 rfl) rfl rfl ?_
  refine ax_mv 2 20 [some (.ref r), some (ax_i x1), some (ax_i x2)] [ax_i 1, ax_i x1, .ref (B + 8), ax_i x2] rfl ?_
  refine ax_add (pc' := 21) ⟨_, rfl⟩ rfl ?_
  obtain ⟨o1, h⟩ := h
  refine ax_ild (n := 9) (pc' := 22) ⟨_, rfl⟩ (az_b 8 rfl) (by decide) o1 rfl ?_
  refine ax_if2 (p1 := 49) (p2 := 25) ⟨_, rfl⟩ (by decide) rfl hx2 (hg _ _) (fun hc => ?_) (fun hc => ?_)
  · have h := h.1 hc
    refine ax_mv 1 50 [some (.ref r), some (ax_i x1), some (ax_i x2)] [.ref r] rfl ?_
    refine ax_gR (v := .ref B) (pc' := 53) ⟨_, rfl⟩ fl_7_9 (az_e 0 rfl) rfl rfl ?_
    refine ax_gR (v := .ref (B + 10)) (pc' := 56) ⟨_, rfl⟩ fl_7_68 (az_b 0 rfl) rfl rfl ?_
    refine ax_mv 1 57 [some (.ref r), some (ax_i x1), some (ax_i x2)] [ax_i x1, .ref (B + 10)] rfl ?_
    obtain ⟨o2, h⟩ := h
    refine ax_ild (n := 9) (pc' := 58) ⟨_, rfl⟩ (az_b 10 rfl) (by decide) o2 rfl ?_
    refine ax_sti (i := 0) (k := 2) (n := 1) (pc' := 59) (L' := [some (.ref r), some (ax_i x1), some (ax_i (V 510 x1))]) ⟨_, rfl⟩ rfl rfl rfl (Nat.le_of_ble_eq_true rfl) rfl rfl ?_
    exact h
  · have h := h.2 (Int.not_le.mp hc)
    refine ax_mv 1 26 [some (.ref r), some (ax_i x1), some (ax_i x2)] [.ref r] rfl ?_
    refine ax_gR (v := .ref (B + 16)) (pc' := 29) ⟨_, rfl⟩ fl_7_21 (az_e 0 rfl) rfl rfl ?_
    refine ax_gR (v := .ref (B + 26)) (pc' := 32) ⟨_, rfl⟩ fl_7_230 (az_b 16 rfl) rfl rfl ?_
    refine ax_mv 1 33 [some (.ref r), some (ax_i x1), some (ax_i x2)] [ax_i x2, .ref (B + 26)] rfl ?_
    obtain ⟨o3, h⟩ := h
    refine ax_bld (n := 700) (pc' := 34) ⟨_, rfl⟩ (az_b 26 rfl) (by decide) o3 rfl ?_
    refine ax_if (p1 := 43) (p2 := 37) ⟨_, rfl⟩ (by decide) rfl (hg _ _) (fun hc => ?_) (fun hc => ?_)
    · have h := h.1 hc
      refine ax_inc (x := x2) (pc' := 46) (L' := [some (.ref r), some (ax_i x1), some (ax_i (x2 + 1))]) ⟨_, rfl⟩ rfl rfl rfl rfl ?_
      refine ax_mv 1 10 [some (.ref r), some (ax_i x1), some (ax_i (x2 + 1))] [] rfl ?_
      exact h
    · have h := h.2 hc
      refine ax_mv 3 40 [some (.ref r), some (ax_i x1), some (ax_i x2)] [ax_i x2, ax_i 0, .ref r] rfl ?_
      refine ax_callN (pc' := 43) ⟨_, rfl⟩ ml_7_205 (rest := []) rfl (fun ss hs => ⟨_, _, (az_e 0 rfl) ss hs⟩) (Nat.le_of_ble_eq_true rfl) rfl rfl h (fun V1 hg1 h => ?_)
      refine ax_inc (x := x2) (pc' := 46) (L' := [some (.ref r), some (ax_i x1), some (ax_i (x2 + 1))]) ⟨_, rfl⟩ rfl rfl rfl rfl ?_
      refine ax_mv 1 10 [some (.ref r), some (ax_i x1), some (ax_i (x2 + 1))] [] rfl ?_
      exact h
set_option maxRecDepth 20000 in
theorem r_Planner_scheduleEnd_59 {B : Nat} {r : Nat} {d : Nat} {V : ax_V} {Φ : ax_V → Prop} {Θ : ax_V → Prop} {x1 : Int} {x2 : Int} (hg : ax_g V) (hx1 : ax_rg x1) (hx2 : ax_rg x2) (h : (0 ≤ x1 + 1 ∧ x1 + 1 < 9) ∧ ((V 510 (x1 + 1) ≤ x2 → (0 ≤ x1 ∧ x1 < 9) ∧ k_Planner_scheduleEnd_96 B r d x1 (V 508 x1) V Φ Θ) ∧ (x2 < V 510 (x1 + 1) → ax_N (az_W B (az_EL B r)) d q_Planner_scheduleMoves [.ref r, ax_i x2, ax_i 0] V (fun V1 => k_Planner_scheduleEnd_59 B r d x1 (x2 + 1) V1 Φ Θ) Θ))) : k_Planner_scheduleEnd_59 B r d x1 x2 V Φ Θ := by
  refine ax_mv 2 61 [some (.ref r), some (ax_i x1), some (ax_i x2)] [.ref r, ax_i x2] rfl ?_
  refine ax_gR (v := .ref B) (pc' := 64) ⟨_, rfl⟩ fl_7_9 (az_e 0 rfl) rfl rfl ?_
  refine ax_gR (v := .ref (B + 10)) (pc' := 67) ⟨_, rfl⟩ fl_7_68 (az_b 0 rfl) rfl rfl ?_
  refine ax_mv 2 69 [some (.ref r), some (ax_i x1), some (ax_i x2)] [ax_i 1, ax_i x1, .ref (B + 10), ax_i x2] rfl ?_
  refine ax_add (pc' := 70) ⟨_, rfl⟩ rfl ?_
  obtain ⟨o4, h⟩ := h
  refine ax_ild (n := 9) (pc' := 71) ⟨_, rfl⟩ (az_b 10 rfl) (by decide) o4 rfl ?_
  refine ax_if2 (p1 := 86) (p2 := 74) ⟨_, rfl⟩ (by decide) rfl hx2 (hg _ _) (fun hc => ?_) (fun hc => ?_)
  · have h := h.1 hc
    refine ax_mv 1 87 [some (.ref r), some (ax_i x1), some (ax_i x2)] [.ref r] rfl ?_
    refine ax_gR (v := .ref B) (pc' := 90) ⟨_, rfl⟩ fl_7_9 (az_e 0 rfl) rfl rfl ?_
    refine ax_gR (v := .ref (B + 8)) (pc' := 93) ⟨_, rfl⟩ fl_7_71 (az_b 0 rfl) rfl rfl ?_
    refine ax_mv 1 94 [some (.ref r), some (ax_i x1), some (ax_i x2)] [ax_i x1, .ref (B + 8)] rfl ?_
    obtain ⟨o5, h⟩ := h
    refine ax_ild (n := 9) (pc' := 95) ⟨_, rfl⟩ (az_b 8 rfl) (by decide) o5 rfl ?_
    refine ax_sti (i := 0) (k := 2) (n := 1) (pc' := 96) (L' := [some (.ref r), some (ax_i x1), some (ax_i (V 508 x1))]) ⟨_, rfl⟩ rfl rfl rfl (Nat.le_of_ble_eq_true rfl) rfl rfl ?_
    exact h
  · have h := h.2 (Int.not_le.mp hc)
    refine ax_mv 3 77 [some (.ref r), some (ax_i x1), some (ax_i x2)] [ax_i 0, ax_i x2, .ref r] rfl ?_
    refine ax_callN (pc' := 80) ⟨_, rfl⟩ ml_7_201 (rest := []) rfl (fun ss hs => ⟨_, _, (az_e 0 rfl) ss hs⟩) (Nat.le_of_ble_eq_true rfl) rfl rfl h (fun V1 hg1 h => ?_)
    refine ax_inc (x := x2) (pc' := 83) (L' := [some (.ref r), some (ax_i x1), some (ax_i (x2 + 1))]) ⟨_, rfl⟩ rfl rfl rfl rfl ?_
    refine ax_mv 1 59 [some (.ref r), some (ax_i x1), some (ax_i (x2 + 1))] [] rfl ?_
    exact h
set_option maxRecDepth 20000 in
theorem r_Planner_scheduleEnd_96 {B : Nat} {r : Nat} {d : Nat} {V : ax_V} {Φ : ax_V → Prop} {Θ : ax_V → Prop} {x1 : Int} {x2 : Int} (hg : ax_g V) (hx1 : ax_rg x1) (hx2 : ax_rg x2) (h : (0 ≤ x1 + 1 ∧ x1 + 1 < 9) ∧ ((V 508 (x1 + 1) ≤ x2 → k_Planner_scheduleEnd_142 B r d x1 (x1 * 26) V Φ Θ) ∧ (x2 < V 508 (x1 + 1) → (0 ≤ x2 ∧ x2 < 700) ∧ ((V 517 x2 = 6 → ax_N (az_W B (az_EL B r)) d q_Planner_addStep [.ref r, ax_i 3, ax_i x2] V (fun V1 => k_Planner_scheduleEnd_96 B r d x1 (x2 + 1) V1 Φ Θ) Θ) ∧ (¬ V 517 x2 = 6 → k_Planner_scheduleEnd_96 B r d x1 (x2 + 1) V Φ Θ))))) : k_Planner_scheduleEnd_96 B r d x1 x2 V Φ Θ := by
  refine ax_mv 2 98 [some (.ref r), some (ax_i x1), some (ax_i x2)] [.ref r, ax_i x2] rfl ?_
  refine ax_gR (v := .ref B) (pc' := 101) ⟨_, rfl⟩ fl_7_9 (az_e 0 rfl) rfl rfl ?_
  refine ax_gR (v := .ref (B + 8)) (pc' := 104) ⟨_, rfl⟩ fl_7_71 (az_b 0 rfl) rfl rfl ?_
  refine ax_mv 2 106 [some (.ref r), some (ax_i x1), some (ax_i x2)] [ax_i 1, ax_i x1, .ref (B + 8), ax_i x2] rfl ?_
  refine ax_add (pc' := 107) ⟨_, rfl⟩ rfl ?_
  obtain ⟨o6, h⟩ := h
  refine ax_ild (n := 9) (pc' := 108) ⟨_, rfl⟩ (az_b 8 rfl) (by decide) o6 rfl ?_
  refine ax_if2 (p1 := 137) (p2 := 111) ⟨_, rfl⟩ (by decide) rfl hx2 (hg _ _) (fun hc => ?_) (fun hc => ?_)
  · have h := h.1 hc
    refine ax_mv 1 138 [some (.ref r), some (ax_i x1), some (ax_i x2)] [ax_i x1] rfl ?_
    refine ax_bip (pc' := 140) ⟨_, rfl⟩ (by decide) rfl ?_
    refine ax_mul (pc' := 141) ⟨_, rfl⟩ rfl ?_
    refine ax_sti (i := 0) (k := 2) (n := 1) (pc' := 142) (L' := [some (.ref r), some (ax_i x1), some (ax_i (x1 * 26))]) ⟨_, rfl⟩ rfl rfl rfl (Nat.le_of_ble_eq_true rfl) rfl rfl ?_
    exact h
  · have h := h.2 (Int.not_le.mp hc)
    refine ax_mv 1 112 [some (.ref r), some (ax_i x1), some (ax_i x2)] [.ref r] rfl ?_
    refine ax_gR (v := .ref (B + 16)) (pc' := 115) ⟨_, rfl⟩ fl_7_21 (az_e 0 rfl) rfl rfl ?_
    refine ax_gR (v := .ref (B + 17)) (pc' := 118) ⟨_, rfl⟩ fl_7_105 (az_b 16 rfl) rfl rfl ?_
    refine ax_mv 1 119 [some (.ref r), some (ax_i x1), some (ax_i x2)] [ax_i x2, .ref (B + 17)] rfl ?_
    obtain ⟨o7, h⟩ := h
    refine ax_ild (n := 700) (pc' := 120) ⟨_, rfl⟩ (az_b 17 rfl) (by decide) o7 rfl ?_
    refine ax_bip (pc' := 122) ⟨_, rfl⟩ (by decide) rfl ?_
    refine ax_if2 (p1 := 131) (p2 := 125) ⟨_, rfl⟩ (by decide) rfl (hg _ _) (by decide) (fun hc => ?_) (fun hc => ?_)
    · have h := h.2 hc
      refine ax_inc (x := x2) (pc' := 134) (L' := [some (.ref r), some (ax_i x1), some (ax_i (x2 + 1))]) ⟨_, rfl⟩ rfl rfl rfl rfl ?_
      refine ax_mv 1 96 [some (.ref r), some (ax_i x1), some (ax_i (x2 + 1))] [] rfl ?_
      exact h
    · have h := h.1 (Classical.not_not.mp hc)
      refine ax_mv 3 128 [some (.ref r), some (ax_i x1), some (ax_i x2)] [ax_i x2, ax_i 3, .ref r] rfl ?_
      refine ax_callN (pc' := 131) ⟨_, rfl⟩ ml_7_205 (rest := []) rfl (fun ss hs => ⟨_, _, (az_e 0 rfl) ss hs⟩) (Nat.le_of_ble_eq_true rfl) rfl rfl h (fun V1 hg1 h => ?_)
      refine ax_inc (x := x2) (pc' := 134) (L' := [some (.ref r), some (ax_i x1), some (ax_i (x2 + 1))]) ⟨_, rfl⟩ rfl rfl rfl rfl ?_
      refine ax_mv 1 96 [some (.ref r), some (ax_i x1), some (ax_i (x2 + 1))] [] rfl ?_
      exact h
set_option maxRecDepth 20000 in
theorem r_Planner_scheduleEnd_142 {B : Nat} {r : Nat} {d : Nat} {V : ax_V} {Φ : ax_V → Prop} {Θ : ax_V → Prop} {x1 : Int} {x2 : Int} (hg : ax_g V) (hx1 : ax_rg x1) (hx2 : ax_rg x2) (h : ax_rg ((x1 + 1) * 26) ∧ (((x1 + 1) * 26 ≤ x2 → (0 ≤ x1 ∧ x1 < 9) ∧ k_Planner_scheduleEnd_186 B r d x1 (V 510 x1) V Φ Θ) ∧ (x2 < (x1 + 1) * 26 → (0 ≤ x2 ∧ x2 < 208) ∧ ((V 538 x2 = 0 → k_Planner_scheduleEnd_142 B r d x1 (x2 + 1) V Φ Θ) ∧ (¬ V 538 x2 = 0 → ax_N (az_W B (az_EL B r)) d q_Planner_addStep [.ref r, ax_i 4, ax_i x2] V (fun V1 => k_Planner_scheduleEnd_142 B r d x1 (x2 + 1) V1 Φ Θ) Θ))))) : k_Planner_scheduleEnd_142 B r d x1 x2 V Φ Θ := by
  refine ax_mv 3 145 [some (.ref r), some (ax_i x1), some (ax_i x2)] [ax_i 1, ax_i x1, ax_i x2] rfl ?_
  refine ax_add (pc' := 146) ⟨_, rfl⟩ rfl ?_
  refine ax_bip (pc' := 148) ⟨_, rfl⟩ (by decide) rfl ?_
  refine ax_mul (pc' := 149) ⟨_, rfl⟩ rfl ?_
  obtain ⟨o8, h⟩ := h
  refine ax_if2 (p1 := 176) (p2 := 152) ⟨_, rfl⟩ (by decide) rfl hx2 o8 (fun hc => ?_) (fun hc => ?_)
  · have h := h.1 hc
    refine ax_mv 1 177 [some (.ref r), some (ax_i x1), some (ax_i x2)] [.ref r] rfl ?_
    refine ax_gR (v := .ref B) (pc' := 180) ⟨_, rfl⟩ fl_7_9 (az_e 0 rfl) rfl rfl ?_
    refine ax_gR (v := .ref (B + 10)) (pc' := 183) ⟨_, rfl⟩ fl_7_68 (az_b 0 rfl) rfl rfl ?_
    refine ax_mv 1 184 [some (.ref r), some (ax_i x1), some (ax_i x2)] [ax_i x1, .ref (B + 10)] rfl ?_
    obtain ⟨o9, h⟩ := h
    refine ax_ild (n := 9) (pc' := 185) ⟨_, rfl⟩ (az_b 10 rfl) (by decide) o9 rfl ?_
    refine ax_sti (i := 0) (k := 2) (n := 1) (pc' := 186) (L' := [some (.ref r), some (ax_i x1), some (ax_i (V 510 x1))]) ⟨_, rfl⟩ rfl rfl rfl (Nat.le_of_ble_eq_true rfl) rfl rfl ?_
    exact h
  · have h := h.2 (Int.not_le.mp hc)
    refine ax_mv 1 153 [some (.ref r), some (ax_i x1), some (ax_i x2)] [.ref r] rfl ?_
    refine ax_gR (v := .ref (B + 32)) (pc' := 156) ⟨_, rfl⟩ fl_7_26 (az_e 0 rfl) rfl rfl ?_
    refine ax_gR (v := .ref (B + 38)) (pc' := 159) ⟨_, rfl⟩ fl_7_96 (az_b 32 rfl) rfl rfl ?_
    refine ax_mv 1 160 [some (.ref r), some (ax_i x1), some (ax_i x2)] [ax_i x2, .ref (B + 38)] rfl ?_
    obtain ⟨o10, h⟩ := h
    refine ax_bld (n := 208) (pc' := 161) ⟨_, rfl⟩ (az_b 38 rfl) (by decide) o10 rfl ?_
    refine ax_if (p1 := 170) (p2 := 164) ⟨_, rfl⟩ (by decide) rfl (hg _ _) (fun hc => ?_) (fun hc => ?_)
    · have h := h.1 hc
      refine ax_inc (x := x2) (pc' := 173) (L' := [some (.ref r), some (ax_i x1), some (ax_i (x2 + 1))]) ⟨_, rfl⟩ rfl rfl rfl rfl ?_
      refine ax_mv 1 142 [some (.ref r), some (ax_i x1), some (ax_i (x2 + 1))] [] rfl ?_
      exact h
    · have h := h.2 hc
      refine ax_mv 3 167 [some (.ref r), some (ax_i x1), some (ax_i x2)] [ax_i x2, ax_i 4, .ref r] rfl ?_
      refine ax_callN (pc' := 170) ⟨_, rfl⟩ ml_7_205 (rest := []) rfl (fun ss hs => ⟨_, _, (az_e 0 rfl) ss hs⟩) (Nat.le_of_ble_eq_true rfl) rfl rfl h (fun V1 hg1 h => ?_)
      refine ax_inc (x := x2) (pc' := 173) (L' := [some (.ref r), some (ax_i x1), some (ax_i (x2 + 1))]) ⟨_, rfl⟩ rfl rfl rfl rfl ?_
      refine ax_mv 1 142 [some (.ref r), some (ax_i x1), some (ax_i (x2 + 1))] [] rfl ?_
      exact h
set_option maxRecDepth 20000 in
theorem r_Planner_scheduleEnd_186 {B : Nat} {r : Nat} {d : Nat} {V : ax_V} {Φ : ax_V → Prop} {Θ : ax_V → Prop} {x1 : Int} {x2 : Int} (hg : ax_g V) (hx1 : ax_rg x1) (hx2 : ax_rg x2) (h : (0 ≤ x1 + 1 ∧ x1 + 1 < 9) ∧ ((V 510 (x1 + 1) ≤ x2 → Φ V) ∧ (x2 < V 510 (x1 + 1) → ax_N (az_W B (az_EL B r)) d q_Planner_addStep [.ref r, ax_i 5, ax_i x2] V (fun V1 => k_Planner_scheduleEnd_186 B r d x1 (x2 + 1) V1 Φ Θ) Θ))) : k_Planner_scheduleEnd_186 B r d x1 x2 V Φ Θ := by
  refine ax_mv 2 188 [some (.ref r), some (ax_i x1), some (ax_i x2)] [.ref r, ax_i x2] rfl ?_
  refine ax_gR (v := .ref B) (pc' := 191) ⟨_, rfl⟩ fl_7_9 (az_e 0 rfl) rfl rfl ?_
  refine ax_gR (v := .ref (B + 10)) (pc' := 194) ⟨_, rfl⟩ fl_7_68 (az_b 0 rfl) rfl rfl ?_
  refine ax_mv 2 196 [some (.ref r), some (ax_i x1), some (ax_i x2)] [ax_i 1, ax_i x1, .ref (B + 10), ax_i x2] rfl ?_
  refine ax_add (pc' := 197) ⟨_, rfl⟩ rfl ?_
  obtain ⟨o11, h⟩ := h
  refine ax_ild (n := 9) (pc' := 198) ⟨_, rfl⟩ (az_b 10 rfl) (by decide) o11 rfl ?_
  refine ax_if2 (p1 := 213) (p2 := 201) ⟨_, rfl⟩ (by decide) rfl hx2 (hg _ _) (fun hc => ?_) (fun hc => ?_)
  · have h := h.1 hc
    exact ax_nret ⟨_, rfl⟩ rfl hg h
  · have h := h.2 (Int.not_le.mp hc)
    refine ax_mv 3 204 [some (.ref r), some (ax_i x1), some (ax_i x2)] [ax_i x2, ax_i 5, .ref r] rfl ?_
    refine ax_callN (pc' := 207) ⟨_, rfl⟩ ml_7_205 (rest := []) rfl (fun ss hs => ⟨_, _, (az_e 0 rfl) ss hs⟩) (Nat.le_of_ble_eq_true rfl) rfl rfl h (fun V1 hg1 h => ?_)
    refine ax_inc (x := x2) (pc' := 210) (L' := [some (.ref r), some (ax_i x1), some (ax_i (x2 + 1))]) ⟨_, rfl⟩ rfl rfl rfl rfl ?_
    refine ax_mv 1 186 [some (.ref r), some (ax_i x1), some (ax_i (x2 + 1))] [] rfl ?_
    exact h
set_option maxRecDepth 20000 in
theorem r_Planner_scheduleEnd {B : Nat} {r : Nat} {d : Nat} {V : ax_V} {Φ : ax_V → Prop} {Θ : ax_V → Prop} {x1 : Int} (hg : ax_g V) (hx1 : ax_rg x1) (h : (0 ≤ x1 ∧ x1 < 9) ∧ k_Planner_scheduleEnd_10 B r d x1 (V 508 x1) V Φ Θ) : ax_N (az_W B (az_EL B r)) (d + 1) q_Planner_scheduleEnd [.ref r, ax_i x1] V Φ Θ := by
  refine ax_T.of (M := m_Planner_scheduleEnd) rfl (Nat.le_of_ble_eq_true rfl) ?_
  refine ax_mv 0 0 [some (.ref r), some (ax_i x1), none] [] rfl ?_
  refine ax_mv 1 1 [some (.ref r), some (ax_i x1), none] [.ref r] rfl ?_
  refine ax_gR (v := .ref B) (pc' := 4) ⟨_, rfl⟩ fl_7_9 (az_e 0 rfl) rfl rfl ?_
  refine ax_gR (v := .ref (B + 8)) (pc' := 7) ⟨_, rfl⟩ fl_7_71 (az_b 0 rfl) rfl rfl ?_
  refine ax_mv 1 8 [some (.ref r), some (ax_i x1), none] [ax_i x1, .ref (B + 8)] rfl ?_
  obtain ⟨o12, h⟩ := h
  refine ax_ild (n := 9) (pc' := 9) ⟨_, rfl⟩ (az_b 8 rfl) (by decide) o12 rfl ?_
  refine ax_sti (i := 0) (k := 2) (n := 1) (pc' := 10) (L' := [some (.ref r), some (ax_i x1), some (ax_i (V 508 x1))]) ⟨_, rfl⟩ rfl rfl rfl (Nat.le_of_ble_eq_true rfl) rfl rfl ?_
  exact h
